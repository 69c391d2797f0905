section
-- ===== PART A: goes FIRST, ahead of the names: the tables' words, and 'selects' of the private methods out of them =====
/-- a private method of a class that the tables say can be made, by its rows of tables_1 -/
def lw_okq (q : MethodName × Nat) : Prop := (q.1.cls ≠ "java/lang/invoke/MethodHandle" ∧ q.1.cls ≠ "java/lang/invoke/VarHandle") ∧ Cond.instantiable q.1.cls q.2 ∈ tables_1 ∧ Cond.privateMethod q.1 ∈ tables_1 ∧ Cond.instanceMethod q.1 ∈ tables_1
theorem lw_p0 : lw_okq (⟨"CancelRows", "fits", "(II)Z"⟩, 7) := ⟨⟨by decide +kernel, by decide +kernel⟩, List.mem_of_getElem? (i := 23) (by decide +kernel), List.mem_of_getElem? (i := 71) (by decide +kernel), List.mem_of_getElem? (i := 72) (by decide +kernel)⟩
theorem lw_p1 : lw_okq (⟨"CancelRows", "added", "(IJ)I"⟩, 7) := ⟨⟨by decide +kernel, by decide +kernel⟩, List.mem_of_getElem? (i := 23) (by decide +kernel), List.mem_of_getElem? (i := 75) (by decide +kernel), List.mem_of_getElem? (i := 76) (by decide +kernel)⟩
theorem lw_p2 : lw_okq (⟨"CancelRows$Sheet", "cut", "(I)I"⟩, 2) := ⟨⟨by decide +kernel, by decide +kernel⟩, List.mem_of_getElem? (i := 88) (by decide +kernel), List.mem_of_getElem? (i := 118) (by decide +kernel), List.mem_of_getElem? (i := 119) (by decide +kernel)⟩
theorem lw_p3 : lw_okq (⟨"CancelRows", "isRow", "(I)Z"⟩, 7) := ⟨⟨by decide +kernel, by decide +kernel⟩, List.mem_of_getElem? (i := 23) (by decide +kernel), List.mem_of_getElem? (i := 138) (by decide +kernel), List.mem_of_getElem? (i := 139) (by decide +kernel)⟩
theorem lw_p4 : lw_okq (⟨"CancelRows", "areAlikeLong", "(II)Z"⟩, 7) := ⟨⟨by decide +kernel, by decide +kernel⟩, List.mem_of_getElem? (i := 23) (by decide +kernel), List.mem_of_getElem? (i := 238) (by decide +kernel), List.mem_of_getElem? (i := 239) (by decide +kernel)⟩
theorem lw_p5 : lw_okq (⟨"CancelRows", "pairListOf", "(I)LCancelRows$PairList;"⟩, 7) := ⟨⟨by decide +kernel, by decide +kernel⟩, List.mem_of_getElem? (i := 23) (by decide +kernel), List.mem_of_getElem? (i := 319) (by decide +kernel), List.mem_of_getElem? (i := 320) (by decide +kernel)⟩
theorem lw_p6 : lw_okq (⟨"CancelRows$PairList", "keepIfLeast", "(III)V"⟩, 2) := ⟨⟨by decide +kernel, by decide +kernel⟩, List.mem_of_getElem? (i := 322) (by decide +kernel), List.mem_of_getElem? (i := 355) (by decide +kernel), List.mem_of_getElem? (i := 356) (by decide +kernel)⟩
theorem lw_p7 : lw_okq (⟨"java/util/ArrayList", "add", "(Ljava/lang/Object;[Ljava/lang/Object;I)V"⟩, 3) := ⟨⟨by decide +kernel, by decide +kernel⟩, List.mem_of_getElem? (i := 328) (by decide +kernel), List.mem_of_getElem? (i := 387) (by decide +kernel), List.mem_of_getElem? (i := 388) (by decide +kernel)⟩
theorem lw_p8 : lw_okq (⟨"java/util/ArrayList", "grow", "()[Ljava/lang/Object;"⟩, 3) := ⟨⟨by decide +kernel, by decide +kernel⟩, List.mem_of_getElem? (i := 328) (by decide +kernel), List.mem_of_getElem? (i := 391) (by decide +kernel), List.mem_of_getElem? (i := 392) (by decide +kernel)⟩
theorem lw_p9 : lw_okq (⟨"java/util/ArrayList", "grow", "(I)[Ljava/lang/Object;"⟩, 3) := ⟨⟨by decide +kernel, by decide +kernel⟩, List.mem_of_getElem? (i := 328) (by decide +kernel), List.mem_of_getElem? (i := 395) (by decide +kernel), List.mem_of_getElem? (i := 396) (by decide +kernel)⟩
theorem lw_p10 : lw_okq (⟨"CancelRows", "bestRowsOf", "(II)LCancelRows$BestRows;"⟩, 7) := ⟨⟨by decide +kernel, by decide +kernel⟩, List.mem_of_getElem? (i := 23) (by decide +kernel), List.mem_of_getElem? (i := 480) (by decide +kernel), List.mem_of_getElem? (i := 481) (by decide +kernel)⟩
theorem lw_p11 : lw_okq (⟨"CancelRowsModel", "added", "(IJ)I"⟩, 16) := ⟨⟨by decide +kernel, by decide +kernel⟩, List.mem_of_getElem? (i := 518) (by decide +kernel), List.mem_of_getElem? (i := 582) (by decide +kernel), List.mem_of_getElem? (i := 583) (by decide +kernel)⟩
theorem lw_p12 : lw_okq (⟨"CancelRowsModel", "is", "(I)Z"⟩, 16) := ⟨⟨by decide +kernel, by decide +kernel⟩, List.mem_of_getElem? (i := 518) (by decide +kernel), List.mem_of_getElem? (i := 608) (by decide +kernel), List.mem_of_getElem? (i := 609) (by decide +kernel)⟩
theorem lw_p13 : lw_okq (⟨"CancelRowsModel", "turns", "(IJ)J"⟩, 16) := ⟨⟨by decide +kernel, by decide +kernel⟩, List.mem_of_getElem? (i := 518) (by decide +kernel), List.mem_of_getElem? (i := 648) (by decide +kernel), List.mem_of_getElem? (i := 649) (by decide +kernel)⟩
theorem lw_p14 : lw_okq (⟨"CancelRowsModel", "areLike", "(II)Z"⟩, 16) := ⟨⟨by decide +kernel, by decide +kernel⟩, List.mem_of_getElem? (i := 518) (by decide +kernel), List.mem_of_getElem? (i := 674) (by decide +kernel), List.mem_of_getElem? (i := 675) (by decide +kernel)⟩
theorem lw_p15 : lw_okq (⟨"CancelRowsModel", "know", "(I)V"⟩, 16) := ⟨⟨by decide +kernel, by decide +kernel⟩, List.mem_of_getElem? (i := 518) (by decide +kernel), List.mem_of_getElem? (i := 733) (by decide +kernel), List.mem_of_getElem? (i := 734) (by decide +kernel)⟩
def lw_privs_1 : List (MethodName × Nat) := [(⟨"CancelRows", "fits", "(II)Z"⟩, 7), (⟨"CancelRows", "added", "(IJ)I"⟩, 7), (⟨"CancelRows$Sheet", "cut", "(I)I"⟩, 2), (⟨"CancelRows", "isRow", "(I)Z"⟩, 7), (⟨"CancelRows", "areAlikeLong", "(II)Z"⟩, 7), (⟨"CancelRows", "pairListOf", "(I)LCancelRows$PairList;"⟩, 7), (⟨"CancelRows$PairList", "keepIfLeast", "(III)V"⟩, 2), (⟨"java/util/ArrayList", "add", "(Ljava/lang/Object;[Ljava/lang/Object;I)V"⟩, 3), (⟨"java/util/ArrayList", "grow", "()[Ljava/lang/Object;"⟩, 3), (⟨"java/util/ArrayList", "grow", "(I)[Ljava/lang/Object;"⟩, 3), (⟨"CancelRows", "bestRowsOf", "(II)LCancelRows$BestRows;"⟩, 7), (⟨"CancelRowsModel", "added", "(IJ)I"⟩, 16), (⟨"CancelRowsModel", "is", "(I)Z"⟩, 16), (⟨"CancelRowsModel", "turns", "(IJ)J"⟩, 16), (⟨"CancelRowsModel", "areLike", "(II)Z"⟩, 16), (⟨"CancelRowsModel", "know", "(I)V"⟩, 16)]
theorem lw_r1 : ∀ q ∈ lw_privs_1, lw_okq q := List.forall_mem_cons.mpr ⟨lw_p0, List.forall_mem_cons.mpr ⟨lw_p1, List.forall_mem_cons.mpr ⟨lw_p2, List.forall_mem_cons.mpr ⟨lw_p3, List.forall_mem_cons.mpr ⟨lw_p4, List.forall_mem_cons.mpr ⟨lw_p5, List.forall_mem_cons.mpr ⟨lw_p6, List.forall_mem_cons.mpr ⟨lw_p7, List.forall_mem_cons.mpr ⟨lw_p8, List.forall_mem_cons.mpr ⟨lw_p9, List.forall_mem_cons.mpr ⟨lw_p10, List.forall_mem_cons.mpr ⟨lw_p11, List.forall_mem_cons.mpr ⟨lw_p12, List.forall_mem_cons.mpr ⟨lw_p13, List.forall_mem_cons.mpr ⟨lw_p14, List.forall_mem_cons.mpr ⟨lw_p15, fun _ h => absurd h List.not_mem_nil⟩⟩⟩⟩⟩⟩⟩⟩⟩⟩⟩⟩⟩⟩⟩⟩
theorem lw_p16 : lw_okq (⟨"CancelRowsModel", "search", "(II)V"⟩, 16) := ⟨⟨by decide +kernel, by decide +kernel⟩, List.mem_of_getElem? (i := 518) (by decide +kernel), List.mem_of_getElem? (i := 749) (by decide +kernel), List.mem_of_getElem? (i := 750) (by decide +kernel)⟩
def lw_privs_2 : List (MethodName × Nat) := [(⟨"CancelRowsModel", "search", "(II)V"⟩, 16)]
theorem lw_r2 : ∀ q ∈ lw_privs_2, lw_okq q := List.forall_mem_cons.mpr ⟨lw_p16, fun _ h => absurd h List.not_mem_nil⟩
def lw_privs : List (MethodName × Nat) := lw_privs_1 ++ (lw_privs_2)
def lw_tbl : List Cond := k2_sels lw_privs ++ tables_1
theorem lw_privs_ok : ∀ q ∈ lw_privs, lw_okq q := by
  show ∀ q ∈ lw_privs_1 ++ (lw_privs_2), lw_okq q
  exact List.forall_mem_append.mpr ⟨lw_r1, lw_r2⟩
end
section
/-! ===== BEGIN words of one list among another's, by their places ===== -/
theorem goodIn_r {big : List Cond} (ws : List Cond) (ps : List Nat) (hp : ws = ps.filterMap (fun i => big[i]?)) (h : ws.all goodWord = true) : GoodIn big ws := by
  intro w hw
  have h1 := List.all_eq_true.mp h w hw
  rw [hp] at hw
  obtain ⟨i, -, hi⟩ := List.mem_filterMap.mp hw
  have hm : w ∈ big := by first | exact List.mem_of_getElem? hi | exact List.getElem?_mem hi
  exact ⟨hm, good_of_word h1⟩
theorem goodIn_app {big a b : List Cond} (ha : GoodIn big a) (hb : GoodIn big b) : GoodIn big (a ++ b) := fun w h => (List.mem_append.mp h).elim (ha w) (hb w)
theorem goodIn_ca {big a b : List Cond} {c : Cond} (ha : GoodIn big (c :: a)) (hb : GoodIn big b) : GoodIn big (c :: (a ++ b)) := fun w h => (List.mem_cons.mp h).elim (fun e => ha w (List.mem_cons.mpr (Or.inl e))) (fun h => (List.mem_append.mp h).elim (fun h => ha w (List.mem_cons.mpr (Or.inr h))) (hb w))
theorem goodIn_sub {big ws : List Cond} (hm : ∀ w ∈ ws, w ∈ big) (h : ws.all goodWord = true) : GoodIn big ws := fun w hw => ⟨hm w hw, good_of_word (List.all_eq_true.mp h w hw)⟩
/-! ===== END ===== -/

/-! ===== BEGIN printed: names, fields, word lists, decode rows ===== -/
def RX0 : String := "CancelRows$BestRows"
def TX0 : u_T := fun k => match k with
  | 0 => ("CancelRows$BestRows", "value", "I", false)
  | 1 => ("CancelRows$BestRows", "leastNumber", "I", false)
  | 2 => ("CancelRows$BestRows", "many", "I", false)
  | _ => ("CancelRows$BestRows", "kinds", "I", false)
def tyX0 : Nat → FieldType := fun k => match k with
  | 0 => .int
  | 1 => .int
  | 2 => .int
  | _ => .int
abbrev wsX00 : List Cond := u_ws RX0 TX0 4
theorem nmX0 : ∀ a, a < 4 → ∀ b, b < 4 → a ≠ b → (TX0 a).2.1 ≠ (TX0 b).2.1 := by decide +kernel
theorem tyX0_ok : ∀ k, k < 4 → parseFieldDescriptor (TX0 k).2.2.1 = some (tyX0 k) := by decide +kernel
abbrev cX0_init : ByteArray := prog_2_method_1_code
def yX0_init : MethodName := ⟨RX0, "<init>", "(II)V"⟩
def RX1 : String := "CancelRows$PairList"
def TX1 : u_T := fun k => match k with
  | 0 => ("CancelRows$PairList", "many", "I", false)
  | _ => ("CancelRows$PairList", "codes", "Ljava/util/ArrayList;", true)
def tyX1 : Nat → FieldType := fun k => match k with
  | 0 => .int
  | _ => .object "java/util/ArrayList"
abbrev wsX10 : List Cond := u_ws RX1 TX1 2
theorem nmX1 : ∀ a, a < 2 → ∀ b, b < 2 → a ≠ b → (TX1 a).2.1 ≠ (TX1 b).2.1 := by decide +kernel
theorem tyX1_ok : ∀ k, k < 2 → parseFieldDescriptor (TX1 k).2.2.1 = some (tyX1 k) := by decide +kernel
abbrev cX1_init : ByteArray := prog_3_method_1_code
def yX1_init : MethodName := ⟨RX1, "<init>", "(I)V"⟩
abbrev cX1_kinds : ByteArray := prog_3_method_2_code
def yX1_kinds : MethodName := ⟨RX1, "kinds", "()I"⟩
abbrev cX1_codeAt : ByteArray := prog_3_method_3_code
def yX1_codeAt : MethodName := ⟨RX1, "codeAt", "(I)I"⟩
abbrev cX1_keepIfLeast : ByteArray := prog_3_method_4_code
def yX1_keepIfLeast : MethodName := ⟨RX1, "keepIfLeast", "(III)V"⟩
abbrev cX1_codeOf : ByteArray := prog_3_method_5_code
def yX1_codeOf : MethodName := ⟨RX1, "codeOf", "(JJ)I"⟩
def RX2 : String := "CancelRows$Sheet"
def TX2 : u_T := fun k => match k with
  | 0 => ("CancelRows$Sheet", "lane", "I", true)
  | _ => ("CancelRows$Sheet", "cells", "[I", true)
def tyX2 : Nat → FieldType := fun k => match k with
  | 0 => .int
  | _ => .array .int
abbrev wsX20 : List Cond := u_ws RX2 TX2 2
theorem nmX2 : ∀ a, a < 2 → ∀ b, b < 2 → a ≠ b → (TX2 a).2.1 ≠ (TX2 b).2.1 := by decide +kernel
theorem tyX2_ok : ∀ k, k < 2 → parseFieldDescriptor (TX2 k).2.2.1 = some (tyX2 k) := by decide +kernel
abbrev cX2_init : ByteArray := prog_4_method_1_code
def yX2_init : MethodName := ⟨RX2, "<init>", "(II)V"⟩
abbrev cX2_size : ByteArray := prog_4_method_2_code
def yX2_size : MethodName := ⟨RX2, "size", "()I"⟩
abbrev cX2_has : ByteArray := prog_4_method_3_code
def yX2_has : MethodName := ⟨RX2, "has", "(I)Z"⟩
abbrev cX2_read : ByteArray := prog_4_method_4_code
def yX2_read : MethodName := ⟨RX2, "read", "(I)I"⟩
abbrev cX2_write : ByteArray := prog_4_method_5_code
def yX2_write : MethodName := ⟨RX2, "write", "(II)V"⟩
abbrev cX2_cut : ByteArray := prog_4_method_6_code
def yX2_cut : MethodName := ⟨RX2, "cut", "(I)I"⟩
def RX3 : String := "CancelRows$Signs"
def TX3 : u_T := fun k => match k with
  | _ => ("", "", "", false)
def tyX3 : Nat → FieldType := fun k => match k with
  | _ => .int
abbrev wsX30 : List Cond := u_ws RX3 TX3 0
theorem nmX3 : ∀ a, a < 0 → ∀ b, b < 0 → a ≠ b → (TX3 a).2.1 ≠ (TX3 b).2.1 := by decide +kernel
theorem tyX3_ok : ∀ k, k < 0 → parseFieldDescriptor (TX3 k).2.2.1 = some (tyX3 k) := by decide +kernel
abbrev cX3_mask : ByteArray := prog_5_method_2_code
def yX3_mask : MethodName := ⟨RX3, "mask", "(I)J"⟩
abbrev cX3_sign : ByteArray := prog_5_method_3_code
def yX3_sign : MethodName := ⟨RX3, "sign", "(JI)I"⟩
abbrev cX3_openSum : ByteArray := prog_5_method_4_code
def yX3_openSum : MethodName := ⟨RX3, "openSum", "(JII)I"⟩
abbrev cX3_roundSum : ByteArray := prog_5_method_5_code
def yX3_roundSum : MethodName := ⟨RX3, "roundSum", "(JII)I"⟩
abbrev cX3_peak : ByteArray := prog_5_method_6_code
def yX3_peak : MethodName := ⟨RX3, "peak", "(JI)I"⟩
abbrev cX3_energy : ByteArray := prog_5_method_7_code
def yX3_energy : MethodName := ⟨RX3, "energy", "(JI)I"⟩
abbrev cX3_total : ByteArray := prog_5_method_8_code
def yX3_total : MethodName := ⟨RX3, "total", "(JI)I"⟩
abbrev cX3_changes : ByteArray := prog_5_method_9_code
def yX3_changes : MethodName := ⟨RX3, "changes", "(JI)I"⟩
abbrev cX3_firstLeftOpen : ByteArray := prog_5_method_10_code
def yX3_firstLeftOpen : MethodName := ⟨RX3, "firstLeftOpen", "(JJI)I"⟩
abbrev cX3_reversed : ByteArray := prog_5_method_11_code
def yX3_reversed : MethodName := ⟨RX3, "reversed", "(JI)J"⟩
abbrev cX3_opposite : ByteArray := prog_5_method_12_code
def yX3_opposite : MethodName := ⟨RX3, "opposite", "(JI)J"⟩
abbrev cX3_turned : ByteArray := prog_5_method_13_code
def yX3_turned : MethodName := ⟨RX3, "turned", "(JII)J"⟩
abbrev cX3_leastTurned : ByteArray := prog_5_method_14_code
def yX3_leastTurned : MethodName := ⟨RX3, "leastTurned", "(JI)J"⟩
abbrev cX3_unlikeTurned : ByteArray := prog_5_method_15_code
def yX3_unlikeTurned : MethodName := ⟨RX3, "unlikeTurned", "(JI)I"⟩
abbrev cX3_isNewTurned : ByteArray := prog_5_method_16_code
def yX3_isNewTurned : MethodName := ⟨RX3, "isNewTurned", "(JII)Z"⟩
abbrev cX3_joined : ByteArray := prog_5_method_17_code
def yX3_joined : MethodName := ⟨RX3, "joined", "(JIJ)J"⟩
abbrev cX3_woven : ByteArray := prog_5_method_18_code
def yX3_woven : MethodName := ⟨RX3, "woven", "(JJI)J"⟩
abbrev cX3_product : ByteArray := prog_5_method_19_code
def yX3_product : MethodName := ⟨RX3, "product", "(JIJI)J"⟩
def RX4 : String := "CancelRows$Squares"
def TX4 : u_T := fun k => match k with
  | _ => ("", "", "", false)
def tyX4 : Nat → FieldType := fun k => match k with
  | _ => .int
abbrev wsX40 : List Cond := u_ws RX4 TX4 0
theorem nmX4 : ∀ a, a < 0 → ∀ b, b < 0 → a ≠ b → (TX4 a).2.1 ≠ (TX4 b).2.1 := by decide +kernel
theorem tyX4_ok : ∀ k, k < 0 → parseFieldDescriptor (TX4 k).2.2.1 = some (tyX4 k) := by decide +kernel
abbrev cX4_rootOf : ByteArray := prog_6_method_2_code
def yX4_rootOf : MethodName := ⟨RX4, "rootOf", "(I)I"⟩
abbrev cX4_ways : ByteArray := prog_6_method_3_code
def yX4_ways : MethodName := ⟨RX4, "ways", "(III)I"⟩
abbrev cX4_hasPrimeOfRestThree : ByteArray := prog_6_method_4_code
def yX4_hasPrimeOfRestThree : MethodName := ⟨RX4, "hasPrimeOfRestThree", "(I)Z"⟩
def RX5 : String := "CancelRows$ToldPairs"
def TX5 : u_T := fun k => match k with
  | _ => ("", "", "", false)
def tyX5 : Nat → FieldType := fun k => match k with
  | _ => .int
abbrev wsX50 : List Cond := u_ws RX5 TX5 0
theorem nmX5 : ∀ a, a < 0 → ∀ b, b < 0 → a ≠ b → (TX5 a).2.1 ≠ (TX5 b).2.1 := by decide +kernel
theorem tyX5_ok : ∀ k, k < 0 → parseFieldDescriptor (TX5 k).2.2.1 = some (tyX5 k) := by decide +kernel
abbrev cX5_seedOf : ByteArray := prog_7_method_2_code
def yX5_seedOf : MethodName := ⟨RX5, "seedOf", "(I)I"⟩
abbrev cX5_firstOfSeed : ByteArray := prog_7_method_3_code
def yX5_firstOfSeed : MethodName := ⟨RX5, "firstOfSeed", "(I)J"⟩
abbrev cX5_secondOfSeed : ByteArray := prog_7_method_4_code
def yX5_secondOfSeed : MethodName := ⟨RX5, "secondOfSeed", "(I)J"⟩
def RX6 : String := "CancelRows"
def TX6 : u_T := fun k => match k with
  | 0 => ("CancelRows", "lengths", "[I", true)
  | 1 => ("CancelRows", "numbers", "[J", true)
  | 2 => ("CancelRows", "sheets", "[LCancelRows$Sheet;", true)
  | 3 => ("CancelRows", "pairLists", "[LCancelRows$PairList;", true)
  | 4 => ("CancelRows", "bestByPeak", "[LCancelRows$BestRows;", true)
  | 5 => ("CancelRows", "bestByEnergy", "[LCancelRows$BestRows;", true)
  | _ => ("CancelRows", "rows", "I", false)
def tyX6 : Nat → FieldType := fun k => match k with
  | 0 => .array .int
  | 1 => .array .long
  | 2 => .array (.object "CancelRows$Sheet")
  | 3 => .array (.object "CancelRows$PairList")
  | 4 => .array (.object "CancelRows$BestRows")
  | 5 => .array (.object "CancelRows$BestRows")
  | _ => .int
abbrev wsX60 : List Cond := u_ws RX6 TX6 7
theorem nmX6 : ∀ a, a < 7 → ∀ b, b < 7 → a ≠ b → (TX6 a).2.1 ≠ (TX6 b).2.1 := by decide +kernel
theorem tyX6_ok : ∀ k, k < 7 → parseFieldDescriptor (TX6 k).2.2.1 = some (tyX6 k) := by decide +kernel
abbrev cX6_init : ByteArray := prog_1_method_1_code
def yX6_init : MethodName := ⟨RX6, "<init>", "()V"⟩
abbrev cX6_row : ByteArray := prog_1_method_2_code
def yX6_row : MethodName := ⟨RX6, "row", "(IJ)I"⟩
abbrev cX6_sheet : ByteArray := prog_1_method_3_code
def yX6_sheet : MethodName := ⟨RX6, "sheet", "(III)I"⟩
abbrev cX6_lay : ByteArray := prog_1_method_4_code
def yX6_lay : MethodName := ⟨RX6, "lay", "(III)I"⟩
abbrev cX6_draw : ByteArray := prog_1_method_5_code
def yX6_draw : MethodName := ⟨RX6, "draw", "(IIII)I"⟩
abbrev cX6_drop : ByteArray := prog_1_method_6_code
def yX6_drop : MethodName := ⟨RX6, "drop", "()I"⟩
abbrev cX6_length : ByteArray := prog_1_method_7_code
def yX6_length : MethodName := ⟨RX6, "length", "(I)I"⟩
abbrev cX6_place : ByteArray := prog_1_method_8_code
def yX6_place : MethodName := ⟨RX6, "place", "(II)I"⟩
abbrev cX6_number : ByteArray := prog_1_method_9_code
def yX6_number : MethodName := ⟨RX6, "number", "(I)J"⟩
abbrev cX6_open : ByteArray := prog_1_method_10_code
def yX6_open : MethodName := ⟨RX6, "open", "(II)I"⟩
abbrev cX6_round : ByteArray := prog_1_method_11_code
def yX6_round : MethodName := ⟨RX6, "round", "(II)I"⟩
abbrev cX6_about : ByteArray := prog_1_method_12_code
def yX6_about : MethodName := ⟨RX6, "about", "(II)I"⟩
abbrev cX6_least : ByteArray := prog_1_method_13_code
def yX6_least : MethodName := ⟨RX6, "least", "(I)J"⟩
abbrev cX6_turn : ByteArray := prog_1_method_14_code
def yX6_turn : MethodName := ⟨RX6, "turn", "(II)I"⟩
abbrev cX6_put : ByteArray := prog_1_method_15_code
def yX6_put : MethodName := ⟨RX6, "put", "(II)I"⟩
abbrev cX6_weave : ByteArray := prog_1_method_16_code
def yX6_weave : MethodName := ⟨RX6, "weave", "(II)I"⟩
abbrev cX6_times : ByteArray := prog_1_method_17_code
def yX6_times : MethodName := ⟨RX6, "times", "(II)I"⟩
abbrev cX6_cancels : ByteArray := prog_1_method_18_code
def yX6_cancels : MethodName := ⟨RX6, "cancels", "(II)I"⟩
abbrev cX6_four : ByteArray := prog_1_method_19_code
def yX6_four : MethodName := ⟨RX6, "four", "(IIII)I"⟩
abbrev cX6_doubled : ByteArray := prog_1_method_20_code
def yX6_doubled : MethodName := ⟨RX6, "doubled", "(II)I"⟩
abbrev cX6_told : ByteArray := prog_1_method_21_code
def yX6_told : MethodName := ⟨RX6, "told", "(I)I"⟩
abbrev cX6_why : ByteArray := prog_1_method_22_code
def yX6_why : MethodName := ⟨RX6, "why", "(I)I"⟩
abbrev cX6_squares : ByteArray := prog_1_method_23_code
def yX6_squares : MethodName := ⟨RX6, "squares", "(II)I"⟩
abbrev cX6_pairs : ByteArray := prog_1_method_24_code
def yX6_pairs : MethodName := ⟨RX6, "pairs", "(II)I"⟩
abbrev cX6_pair : ByteArray := prog_1_method_25_code
def yX6_pair : MethodName := ⟨RX6, "pair", "(II)I"⟩
abbrev cX6_best : ByteArray := prog_1_method_26_code
def yX6_best : MethodName := ⟨RX6, "best", "(III)I"⟩
abbrev cX6_count : ByteArray := prog_1_method_27_code
def yX6_count : MethodName := ⟨RX6, "count", "(I)I"⟩
abbrev cX6_within : ByteArray := prog_1_method_28_code
def yX6_within : MethodName := ⟨RX6, "within", "(III)Z"⟩
abbrev cX6_isSheet : ByteArray := prog_1_method_29_code
def yX6_isSheet : MethodName := ⟨RX6, "isSheet", "(I)Z"⟩
abbrev cX6_isLane : ByteArray := prog_1_method_30_code
def yX6_isLane : MethodName := ⟨RX6, "isLane", "(I)Z"⟩
abbrev cX6_isRow : ByteArray := prog_1_method_31_code
def yX6_isRow : MethodName := ⟨RX6, "isRow", "(I)Z"⟩
abbrev cX6_areAlikeLong : ByteArray := prog_1_method_32_code
def yX6_areAlikeLong : MethodName := ⟨RX6, "areAlikeLong", "(II)Z"⟩
abbrev cX6_fits : ByteArray := prog_1_method_33_code
def yX6_fits : MethodName := ⟨RX6, "fits", "(II)Z"⟩
abbrev cX6_added : ByteArray := prog_1_method_34_code
def yX6_added : MethodName := ⟨RX6, "added", "(IJ)I"⟩
abbrev cX6_pairListOf : ByteArray := prog_1_method_35_code
def yX6_pairListOf : MethodName := ⟨RX6, "pairListOf", "(I)LCancelRows$PairList;"⟩
abbrev cX6_bestRowsOf : ByteArray := prog_1_method_36_code
def yX6_bestRowsOf : MethodName := ⟨RX6, "bestRowsOf", "(II)LCancelRows$BestRows;"⟩
def RX7 : String := "CancelRowsModel"
def TX7 : u_T := fun k => match k with
  | 0 => ("CancelRowsModel", "many", "I", false)
  | 1 => ("CancelRowsModel", "lengths", "[I", true)
  | 2 => ("CancelRowsModel", "numbers", "[J", true)
  | 3 => ("CancelRowsModel", "lanes", "[I", true)
  | 4 => ("CancelRowsModel", "sizes", "[I", true)
  | 5 => ("CancelRowsModel", "cells", "[I", true)
  | 6 => ("CancelRowsModel", "found", "[J", true)
  | 7 => ("CancelRowsModel", "foundMany", "I", false)
  | 8 => ("CancelRowsModel", "known", "I", false)
  | 9 => ("CancelRowsModel", "pairMany", "I", false)
  | 10 => ("CancelRowsModel", "pairRow", "[I", true)
  | 11 => ("CancelRowsModel", "leastMany", "I", false)
  | 12 => ("CancelRowsModel", "leastRow", "[I", true)
  | 13 => ("CancelRowsModel", "sums", "[I", true)
  | 14 => ("CancelRowsModel", "isFound", "[Z", true)
  | _ => ("CancelRowsModel", "bestRow", "[I", true)
def tyX7 : Nat → FieldType := fun k => match k with
  | 0 => .int
  | 1 => .array .int
  | 2 => .array .long
  | 3 => .array .int
  | 4 => .array .int
  | 5 => .array .int
  | 6 => .array .long
  | 7 => .int
  | 8 => .int
  | 9 => .int
  | 10 => .array .int
  | 11 => .int
  | 12 => .array .int
  | 13 => .array .int
  | 14 => .array .boolean
  | _ => .array .int
abbrev wsX70 : List Cond := u_ws RX7 TX7 16
theorem nmX7 : ∀ a, a < 16 → ∀ b, b < 16 → a ≠ b → (TX7 a).2.1 ≠ (TX7 b).2.1 := by decide +kernel
theorem tyX7_ok : ∀ k, k < 16 → parseFieldDescriptor (TX7 k).2.2.1 = some (tyX7 k) := by decide +kernel
abbrev cX7_init : ByteArray := prog_9_method_1_code
def yX7_init : MethodName := ⟨RX7, "<init>", "()V"⟩
abbrev cX7_in : ByteArray := prog_9_method_3_code
def yX7_in : MethodName := ⟨RX7, "in", "(JJJ)Z"⟩
abbrev cX7_at : ByteArray := prog_9_method_4_code
def yX7_at : MethodName := ⟨RX7, "at", "(JI)I"⟩
abbrev cX7_is : ByteArray := prog_9_method_5_code
def yX7_is : MethodName := ⟨RX7, "is", "(I)Z"⟩
abbrev cX7_added : ByteArray := prog_9_method_6_code
def yX7_added : MethodName := ⟨RX7, "added", "(IJ)I"⟩
abbrev cX7_row : ByteArray := prog_9_method_7_code
def yX7_row : MethodName := ⟨RX7, "row", "(IJ)I"⟩
abbrev cX7_sheet : ByteArray := prog_9_method_8_code
def yX7_sheet : MethodName := ⟨RX7, "sheet", "(III)I"⟩
abbrev cX7_lay : ByteArray := prog_9_method_9_code
def yX7_lay : MethodName := ⟨RX7, "lay", "(III)I"⟩
abbrev cX7_draw : ByteArray := prog_9_method_10_code
def yX7_draw : MethodName := ⟨RX7, "draw", "(IIII)I"⟩
abbrev cX7_drop : ByteArray := prog_9_method_11_code
def yX7_drop : MethodName := ⟨RX7, "drop", "()I"⟩
abbrev cX7_length : ByteArray := prog_9_method_12_code
def yX7_length : MethodName := ⟨RX7, "length", "(I)I"⟩
abbrev cX7_place : ByteArray := prog_9_method_13_code
def yX7_place : MethodName := ⟨RX7, "place", "(II)I"⟩
abbrev cX7_number : ByteArray := prog_9_method_14_code
def yX7_number : MethodName := ⟨RX7, "number", "(I)J"⟩
abbrev cX7_openOf : ByteArray := prog_9_method_15_code
def yX7_openOf : MethodName := ⟨RX7, "openOf", "(IJI)I"⟩
abbrev cX7_roundOf : ByteArray := prog_9_method_16_code
def yX7_roundOf : MethodName := ⟨RX7, "roundOf", "(IJI)I"⟩
abbrev cX7_open : ByteArray := prog_9_method_17_code
def yX7_open : MethodName := ⟨RX7, "open", "(II)I"⟩
abbrev cX7_round : ByteArray := prog_9_method_18_code
def yX7_round : MethodName := ⟨RX7, "round", "(II)I"⟩
abbrev cX7_peakOf : ByteArray := prog_9_method_19_code
def yX7_peakOf : MethodName := ⟨RX7, "peakOf", "(IJ)I"⟩
abbrev cX7_energyOf : ByteArray := prog_9_method_20_code
def yX7_energyOf : MethodName := ⟨RX7, "energyOf", "(IJ)I"⟩
abbrev cX7_turned : ByteArray := prog_9_method_21_code
def yX7_turned : MethodName := ⟨RX7, "turned", "(IJI)J"⟩
abbrev cX7_turns : ByteArray := prog_9_method_22_code
def yX7_turns : MethodName := ⟨RX7, "turns", "(IJ)J"⟩
abbrev cX7_about : ByteArray := prog_9_method_23_code
def yX7_about : MethodName := ⟨RX7, "about", "(II)I"⟩
abbrev cX7_least : ByteArray := prog_9_method_24_code
def yX7_least : MethodName := ⟨RX7, "least", "(I)J"⟩
abbrev cX7_turn : ByteArray := prog_9_method_25_code
def yX7_turn : MethodName := ⟨RX7, "turn", "(II)I"⟩
abbrev cX7_areLike : ByteArray := prog_9_method_26_code
def yX7_areLike : MethodName := ⟨RX7, "areLike", "(II)Z"⟩
abbrev cX7_behind : ByteArray := prog_9_method_27_code
def yX7_behind : MethodName := ⟨RX7, "behind", "(IJJ)J"⟩
abbrev cX7_put : ByteArray := prog_9_method_28_code
def yX7_put : MethodName := ⟨RX7, "put", "(II)I"⟩
abbrev cX7_weave : ByteArray := prog_9_method_29_code
def yX7_weave : MethodName := ⟨RX7, "weave", "(II)I"⟩
abbrev cX7_times : ByteArray := prog_9_method_30_code
def yX7_times : MethodName := ⟨RX7, "times", "(II)I"⟩
abbrev cX7_cancelOf : ByteArray := prog_9_method_31_code
def yX7_cancelOf : MethodName := ⟨RX7, "cancelOf", "(IJJ)I"⟩
abbrev cX7_cancels : ByteArray := prog_9_method_32_code
def yX7_cancels : MethodName := ⟨RX7, "cancels", "(II)I"⟩
abbrev cX7_four : ByteArray := prog_9_method_33_code
def yX7_four : MethodName := ⟨RX7, "four", "(IIII)I"⟩
abbrev cX7_opposite : ByteArray := prog_9_method_34_code
def yX7_opposite : MethodName := ⟨RX7, "opposite", "(IJ)J"⟩
abbrev cX7_doubled : ByteArray := prog_9_method_35_code
def yX7_doubled : MethodName := ⟨RX7, "doubled", "(II)I"⟩
abbrev cX7_ofBits : ByteArray := prog_9_method_36_code
def yX7_ofBits : MethodName := ⟨RX7, "ofBits", "(IJ)J"⟩
abbrev cX7_told : ByteArray := prog_9_method_37_code
def yX7_told : MethodName := ⟨RX7, "told", "(I)I"⟩
abbrev cX7_why : ByteArray := prog_9_method_38_code
def yX7_why : MethodName := ⟨RX7, "why", "(I)I"⟩
abbrev cX7_rootOf : ByteArray := prog_9_method_39_code
def yX7_rootOf : MethodName := ⟨RX7, "rootOf", "(I)I"⟩
abbrev cX7_ways : ByteArray := prog_9_method_40_code
def yX7_ways : MethodName := ⟨RX7, "ways", "(II)I"⟩
abbrev cX7_squares : ByteArray := prog_9_method_41_code
def yX7_squares : MethodName := ⟨RX7, "squares", "(II)I"⟩
abbrev cX7_know : ByteArray := prog_9_method_42_code
def yX7_know : MethodName := ⟨RX7, "know", "(I)V"⟩
abbrev cX7_isLeast : ByteArray := prog_9_method_43_code
def yX7_isLeast : MethodName := ⟨RX7, "isLeast", "(III)Z"⟩
abbrev cX7_pairs : ByteArray := prog_9_method_44_code
def yX7_pairs : MethodName := ⟨RX7, "pairs", "(II)I"⟩
abbrev cX7_pair : ByteArray := prog_9_method_45_code
def yX7_pair : MethodName := ⟨RX7, "pair", "(II)I"⟩
abbrev cX7_search : ByteArray := prog_9_method_46_code
def yX7_search : MethodName := ⟨RX7, "search", "(II)V"⟩
abbrev cX7_best : ByteArray := prog_9_method_47_code
def yX7_best : MethodName := ⟨RX7, "best", "(III)I"⟩
abbrev cX7_count : ByteArray := prog_9_method_48_code
def yX7_count : MethodName := ⟨RX7, "count", "(I)I"⟩
def RJx145de : String := "java/io/Serializable"
def TJx145de : u_T := fun k => match k with
  | _ => ("", "", "", false)
def tyJx145de : Nat → FieldType := fun k => match k with
  | _ => .int
abbrev wsJx145de0 : List Cond := u_ws RJx145de TJx145de 0
theorem nmJx145de : ∀ a, a < 0 → ∀ b, b < 0 → a ≠ b → (TJx145de a).2.1 ≠ (TJx145de b).2.1 := by decide +kernel
theorem tyJx145de_ok : ∀ k, k < 0 → parseFieldDescriptor (TJx145de k).2.2.1 = some (tyJx145de k) := by decide +kernel
def RJx8e188 : String := "java/lang/Cloneable"
def TJx8e188 : u_T := fun k => match k with
  | _ => ("", "", "", false)
def tyJx8e188 : Nat → FieldType := fun k => match k with
  | _ => .int
abbrev wsJx8e1880 : List Cond := u_ws RJx8e188 TJx8e188 0
theorem nmJx8e188 : ∀ a, a < 0 → ∀ b, b < 0 → a ≠ b → (TJx8e188 a).2.1 ≠ (TJx8e188 b).2.1 := by decide +kernel
theorem tyJx8e188_ok : ∀ k, k < 0 → parseFieldDescriptor (TJx8e188 k).2.2.1 = some (tyJx8e188 k) := by decide +kernel
def RJxb160c : String := "java/lang/Comparable"
def TJxb160c : u_T := fun k => match k with
  | _ => ("", "", "", false)
def tyJxb160c : Nat → FieldType := fun k => match k with
  | _ => .int
abbrev wsJxb160c0 : List Cond := u_ws RJxb160c TJxb160c 0
theorem nmJxb160c : ∀ a, a < 0 → ∀ b, b < 0 → a ≠ b → (TJxb160c a).2.1 ≠ (TJxb160c b).2.1 := by decide +kernel
theorem tyJxb160c_ok : ∀ k, k < 0 → parseFieldDescriptor (TJxb160c k).2.2.1 = some (tyJxb160c k) := by decide +kernel
def RJxabbfe : String := "java/lang/Integer$IntegerCache"
def TJxabbfe : u_T := fun k => match k with
  | _ => ("", "", "", false)
def tyJxabbfe : Nat → FieldType := fun k => match k with
  | _ => .int
abbrev wsJxabbfe0 : List Cond := u_ws RJxabbfe TJxabbfe 0
theorem nmJxabbfe : ∀ a, a < 0 → ∀ b, b < 0 → a ≠ b → (TJxabbfe a).2.1 ≠ (TJxabbfe b).2.1 := by decide +kernel
theorem tyJxabbfe_ok : ∀ k, k < 0 → parseFieldDescriptor (TJxabbfe k).2.2.1 = some (tyJxabbfe k) := by decide +kernel
def RJ6 : String := "java/lang/Integer"
def TJ6 : u_T := fun k => match k with
  | _ => ("java/lang/Integer", "value", "I", true)
def tyJ6 : Nat → FieldType := fun k => match k with
  | _ => .int
abbrev wsJ60 : List Cond := u_ws RJ6 TJ6 1
theorem nmJ6 : ∀ a, a < 1 → ∀ b, b < 1 → a ≠ b → (TJ6 a).2.1 ≠ (TJ6 b).2.1 := by decide +kernel
theorem tyJ6_ok : ∀ k, k < 1 → parseFieldDescriptor (TJ6 k).2.2.1 = some (tyJ6 k) := by decide +kernel
abbrev cJ6_valueOf_2dffe : ByteArray := prog_13_method_22_code
def yJ6_valueOf_2dffe : MethodName := ⟨RJ6, "valueOf", "(I)Ljava/lang/Integer;"⟩
abbrev cJ6_init_d00df : ByteArray := prog_13_method_23_code
def yJ6_init_d00df : MethodName := ⟨RJ6, "<init>", "(I)V"⟩
abbrev cJ6_intValue_8abf5 : ByteArray := prog_13_method_27_code
def yJ6_intValue_8abf5 : MethodName := ⟨RJ6, "intValue", "()I"⟩
abbrev cJ6_bitCount_0f7a4 : ByteArray := prog_13_method_49_code
def yJ6_bitCount_0f7a4 : MethodName := ⟨RJ6, "bitCount", "(I)I"⟩
def RJxab1ab : String := "java/lang/Iterable"
def TJxab1ab : u_T := fun k => match k with
  | _ => ("", "", "", false)
def tyJxab1ab : Nat → FieldType := fun k => match k with
  | _ => .int
abbrev wsJxab1ab0 : List Cond := u_ws RJxab1ab TJxab1ab 0
theorem nmJxab1ab : ∀ a, a < 0 → ∀ b, b < 0 → a ≠ b → (TJxab1ab a).2.1 ≠ (TJxab1ab b).2.1 := by decide +kernel
theorem tyJxab1ab_ok : ∀ k, k < 0 → parseFieldDescriptor (TJxab1ab k).2.2.1 = some (tyJxab1ab k) := by decide +kernel
def RJ13 : String := "java/lang/Long"
def TJ13 : u_T := fun k => match k with
  | _ => ("", "", "", false)
def tyJ13 : Nat → FieldType := fun k => match k with
  | _ => .int
abbrev wsJ130 : List Cond := u_ws RJ13 TJ13 0
theorem nmJ13 : ∀ a, a < 0 → ∀ b, b < 0 → a ≠ b → (TJ13 a).2.1 ≠ (TJ13 b).2.1 := by decide +kernel
theorem tyJ13_ok : ∀ k, k < 0 → parseFieldDescriptor (TJ13 k).2.2.1 = some (tyJ13 k) := by decide +kernel
abbrev cJ13_bitCount_95d88 : ByteArray := prog_16_method_50_code
def yJ13_bitCount_95d88 : MethodName := ⟨RJ13, "bitCount", "(J)I"⟩
def RJ9 : String := "java/lang/Math"
def TJ9 : u_T := fun k => match k with
  | _ => ("", "", "", false)
def tyJ9 : Nat → FieldType := fun k => match k with
  | _ => .int
abbrev wsJ90 : List Cond := u_ws RJ9 TJ9 0
theorem nmJ9 : ∀ a, a < 0 → ∀ b, b < 0 → a ≠ b → (TJ9 a).2.1 ≠ (TJ9 b).2.1 := by decide +kernel
theorem tyJ9_ok : ∀ k, k < 0 → parseFieldDescriptor (TJ9 k).2.2.1 = some (tyJ9 k) := by decide +kernel
abbrev cJ9_abs_0f7a4 : ByteArray := prog_17_method_59_code
def yJ9_abs_0f7a4 : MethodName := ⟨RJ9, "abs", "(I)I"⟩
abbrev cJ9_max_7cf53 : ByteArray := prog_17_method_65_code
def yJ9_max_7cf53 : MethodName := ⟨RJ9, "max", "(II)I"⟩
abbrev cJ9_min_7cf53 : ByteArray := prog_17_method_69_code
def yJ9_min_7cf53 : MethodName := ⟨RJ9, "min", "(II)I"⟩
abbrev cJ9_min_f86c9 : ByteArray := prog_17_method_70_code
def yJ9_min_f86c9 : MethodName := ⟨RJ9, "min", "(JJ)J"⟩
def RJxd2413 : String := "java/lang/Number"
def TJxd2413 : u_T := fun k => match k with
  | _ => ("", "", "", false)
def tyJxd2413 : Nat → FieldType := fun k => match k with
  | _ => .int
abbrev wsJxd24130 : List Cond := u_ws RJxd2413 TJxd2413 0
theorem nmJxd2413 : ∀ a, a < 0 → ∀ b, b < 0 → a ≠ b → (TJxd2413 a).2.1 ≠ (TJxd2413 b).2.1 := by decide +kernel
theorem tyJxd2413_ok : ∀ k, k < 0 → parseFieldDescriptor (TJxd2413 k).2.2.1 = some (tyJxd2413 k) := by decide +kernel
abbrev cJxd2413_init_da8c8 : ByteArray := prog_18_method_1_code
def yJxd2413_init_da8c8 : MethodName := ⟨RJxd2413, "<init>", "()V"⟩
def RJ10 : String := "java/lang/System"
def TJ10 : u_T := fun k => match k with
  | _ => ("", "", "", false)
def tyJ10 : Nat → FieldType := fun k => match k with
  | _ => .int
abbrev wsJ100 : List Cond := u_ws RJ10 TJ10 0
theorem nmJ10 : ∀ a, a < 0 → ∀ b, b < 0 → a ≠ b → (TJ10 a).2.1 ≠ (TJ10 b).2.1 := by decide +kernel
theorem tyJ10_ok : ∀ k, k < 0 → parseFieldDescriptor (TJ10 k).2.2.1 = some (tyJ10 k) := by decide +kernel
def RJxfd54e : String := "java/lang/constant/Constable"
def TJxfd54e : u_T := fun k => match k with
  | _ => ("", "", "", false)
def tyJxfd54e : Nat → FieldType := fun k => match k with
  | _ => .int
abbrev wsJxfd54e0 : List Cond := u_ws RJxfd54e TJxfd54e 0
theorem nmJxfd54e : ∀ a, a < 0 → ∀ b, b < 0 → a ≠ b → (TJxfd54e a).2.1 ≠ (TJxfd54e b).2.1 := by decide +kernel
theorem tyJxfd54e_ok : ∀ k, k < 0 → parseFieldDescriptor (TJxfd54e k).2.2.1 = some (tyJxfd54e k) := by decide +kernel
def RJx3cf43 : String := "java/lang/constant/ConstantDesc"
def TJx3cf43 : u_T := fun k => match k with
  | _ => ("", "", "", false)
def tyJx3cf43 : Nat → FieldType := fun k => match k with
  | _ => .int
abbrev wsJx3cf430 : List Cond := u_ws RJx3cf43 TJx3cf43 0
theorem nmJx3cf43 : ∀ a, a < 0 → ∀ b, b < 0 → a ≠ b → (TJx3cf43 a).2.1 ≠ (TJx3cf43 b).2.1 := by decide +kernel
theorem tyJx3cf43_ok : ∀ k, k < 0 → parseFieldDescriptor (TJx3cf43 k).2.2.1 = some (tyJx3cf43 k) := by decide +kernel
def RJxa1e45 : String := "java/util/AbstractCollection"
def TJxa1e45 : u_T := fun k => match k with
  | _ => ("", "", "", false)
def tyJxa1e45 : Nat → FieldType := fun k => match k with
  | _ => .int
abbrev wsJxa1e450 : List Cond := u_ws RJxa1e45 TJxa1e45 0
theorem nmJxa1e45 : ∀ a, a < 0 → ∀ b, b < 0 → a ≠ b → (TJxa1e45 a).2.1 ≠ (TJxa1e45 b).2.1 := by decide +kernel
theorem tyJxa1e45_ok : ∀ k, k < 0 → parseFieldDescriptor (TJxa1e45 k).2.2.1 = some (tyJxa1e45 k) := by decide +kernel
abbrev cJxa1e45_init_da8c8 : ByteArray := prog_22_method_1_code
def yJxa1e45_init_da8c8 : MethodName := ⟨RJxa1e45, "<init>", "()V"⟩
def RJxc12de : String := "java/util/AbstractList"
def TJxc12de : u_T := fun k => match k with
  | _ => ("", "", "", false)
def tyJxc12de : Nat → FieldType := fun k => match k with
  | _ => .int
abbrev wsJxc12de0 : List Cond := u_ws RJxc12de TJxc12de 0
theorem nmJxc12de : ∀ a, a < 0 → ∀ b, b < 0 → a ≠ b → (TJxc12de a).2.1 ≠ (TJxc12de b).2.1 := by decide +kernel
theorem tyJxc12de_ok : ∀ k, k < 0 → parseFieldDescriptor (TJxc12de k).2.2.1 = some (tyJxc12de k) := by decide +kernel
abbrev cJxc12de_init_da8c8 : ByteArray := prog_23_method_1_code
def yJxc12de_init_da8c8 : MethodName := ⟨RJxc12de, "<init>", "()V"⟩
def RJx4a65c : String := "java/util/ArrayList"
def TJx4a65c : u_T := fun k => match k with
  | 0 => ("java/util/AbstractList", "modCount", "I", false)
  | 1 => ("java/util/ArrayList", "elementData", "[Ljava/lang/Object;", false)
  | _ => ("java/util/ArrayList", "size", "I", false)
def tyJx4a65c : Nat → FieldType := fun k => match k with
  | 0 => .int
  | 1 => .array (.object "java/lang/Object")
  | _ => .int
abbrev wsJx4a65c0 : List Cond := u_ws RJx4a65c TJx4a65c 3
theorem nmJx4a65c : ∀ a, a < 3 → ∀ b, b < 3 → a ≠ b → (TJx4a65c a).2.1 ≠ (TJx4a65c b).2.1 := by decide +kernel
theorem tyJx4a65c_ok : ∀ k, k < 3 → parseFieldDescriptor (TJx4a65c k).2.2.1 = some (tyJx4a65c k) := by decide +kernel
abbrev cJx4a65c_init_da8c8 : ByteArray := prog_24_method_2_code
def yJx4a65c_init_da8c8 : MethodName := ⟨RJx4a65c, "<init>", "()V"⟩
abbrev cJx4a65c_grow_92f84 : ByteArray := prog_24_method_6_code
def yJx4a65c_grow_92f84 : MethodName := ⟨RJx4a65c, "grow", "(I)[Ljava/lang/Object;"⟩
abbrev cJx4a65c_grow_d5877 : ByteArray := prog_24_method_7_code
def yJx4a65c_grow_d5877 : MethodName := ⟨RJx4a65c, "grow", "()[Ljava/lang/Object;"⟩
abbrev cJx4a65c_size_8abf5 : ByteArray := prog_24_method_8_code
def yJx4a65c_size_8abf5 : MethodName := ⟨RJx4a65c, "size", "()I"⟩
abbrev cJx4a65c_elementData_915e3 : ByteArray := prog_24_method_18_code
def yJx4a65c_elementData_915e3 : MethodName := ⟨RJx4a65c, "elementData", "(I)Ljava/lang/Object;"⟩
abbrev cJx4a65c_get_915e3 : ByteArray := prog_24_method_20_code
def yJx4a65c_get_915e3 : MethodName := ⟨RJx4a65c, "get", "(I)Ljava/lang/Object;"⟩
abbrev cJx4a65c_add_72be8 : ByteArray := prog_24_method_24_code
def yJx4a65c_add_72be8 : MethodName := ⟨RJx4a65c, "add", "(Ljava/lang/Object;[Ljava/lang/Object;I)V"⟩
abbrev cJx4a65c_add_9ea2d : ByteArray := prog_24_method_25_code
def yJx4a65c_add_9ea2d : MethodName := ⟨RJx4a65c, "add", "(Ljava/lang/Object;)Z"⟩
def RJ7 : String := "java/util/Arrays"
def TJ7 : u_T := fun k => match k with
  | _ => ("", "", "", false)
def tyJ7 : Nat → FieldType := fun k => match k with
  | _ => .int
abbrev wsJ70 : List Cond := u_ws RJ7 TJ7 0
theorem nmJ7 : ∀ a, a < 0 → ∀ b, b < 0 → a ≠ b → (TJ7 a).2.1 ≠ (TJ7 b).2.1 := by decide +kernel
theorem tyJ7_ok : ∀ k, k < 0 → parseFieldDescriptor (TJ7 k).2.2.1 = some (tyJ7 k) := by decide +kernel
abbrev cJ7_copyOf_1904c : ByteArray := prog_25_method_119_code
def yJ7_copyOf_1904c : MethodName := ⟨RJ7, "copyOf", "([Ljava/lang/Object;I)[Ljava/lang/Object;"⟩
abbrev cJ7_copyOf_6403c : ByteArray := prog_25_method_120_code
def yJ7_copyOf_6403c : MethodName := ⟨RJ7, "copyOf", "([Ljava/lang/Object;ILjava/lang/Class;)[Ljava/lang/Object;"⟩
def RJx5ef63 : String := "java/util/Collection"
def TJx5ef63 : u_T := fun k => match k with
  | _ => ("", "", "", false)
def tyJx5ef63 : Nat → FieldType := fun k => match k with
  | _ => .int
abbrev wsJx5ef630 : List Cond := u_ws RJx5ef63 TJx5ef63 0
theorem nmJx5ef63 : ∀ a, a < 0 → ∀ b, b < 0 → a ≠ b → (TJx5ef63 a).2.1 ≠ (TJx5ef63 b).2.1 := by decide +kernel
theorem tyJx5ef63_ok : ∀ k, k < 0 → parseFieldDescriptor (TJx5ef63 k).2.2.1 = some (tyJx5ef63 k) := by decide +kernel
def RJxbd725 : String := "java/util/List"
def TJxbd725 : u_T := fun k => match k with
  | _ => ("", "", "", false)
def tyJxbd725 : Nat → FieldType := fun k => match k with
  | _ => .int
abbrev wsJxbd7250 : List Cond := u_ws RJxbd725 TJxbd725 0
theorem nmJxbd725 : ∀ a, a < 0 → ∀ b, b < 0 → a ≠ b → (TJxbd725 a).2.1 ≠ (TJxbd725 b).2.1 := by decide +kernel
theorem tyJxbd725_ok : ∀ k, k < 0 → parseFieldDescriptor (TJxbd725 k).2.2.1 = some (tyJxbd725 k) := by decide +kernel
def RJ15 : String := "java/util/Objects"
def TJ15 : u_T := fun k => match k with
  | _ => ("", "", "", false)
def tyJ15 : Nat → FieldType := fun k => match k with
  | _ => .int
abbrev wsJ150 : List Cond := u_ws RJ15 TJ15 0
theorem nmJ15 : ∀ a, a < 0 → ∀ b, b < 0 → a ≠ b → (TJ15 a).2.1 ≠ (TJ15 b).2.1 := by decide +kernel
theorem tyJ15_ok : ∀ k, k < 0 → parseFieldDescriptor (TJ15 k).2.2.1 = some (tyJ15 k) := by decide +kernel
abbrev cJ15_checkIndex_7cf53 : ByteArray := prog_28_method_17_code
def yJ15_checkIndex_7cf53 : MethodName := ⟨RJ15, "checkIndex", "(II)I"⟩
def RJxf0a74 : String := "java/util/RandomAccess"
def TJxf0a74 : u_T := fun k => match k with
  | _ => ("", "", "", false)
def tyJxf0a74 : Nat → FieldType := fun k => match k with
  | _ => .int
abbrev wsJxf0a740 : List Cond := u_ws RJxf0a74 TJxf0a74 0
theorem nmJxf0a74 : ∀ a, a < 0 → ∀ b, b < 0 → a ≠ b → (TJxf0a74 a).2.1 ≠ (TJxf0a74 b).2.1 := by decide +kernel
theorem tyJxf0a74_ok : ∀ k, k < 0 → parseFieldDescriptor (TJxf0a74 k).2.2.1 = some (tyJxf0a74 k) := by decide +kernel
def RJxa66e6 : String := "java/util/SequencedCollection"
def TJxa66e6 : u_T := fun k => match k with
  | _ => ("", "", "", false)
def tyJxa66e6 : Nat → FieldType := fun k => match k with
  | _ => .int
abbrev wsJxa66e60 : List Cond := u_ws RJxa66e6 TJxa66e6 0
theorem nmJxa66e6 : ∀ a, a < 0 → ∀ b, b < 0 → a ≠ b → (TJxa66e6 a).2.1 ≠ (TJxa66e6 b).2.1 := by decide +kernel
theorem tyJxa66e6_ok : ∀ k, k < 0 → parseFieldDescriptor (TJxa66e6 k).2.2.1 = some (tyJxa66e6 k) := by decide +kernel
def RJ8 : String := "jdk/internal/util/ArraysSupport"
def TJ8 : u_T := fun k => match k with
  | _ => ("", "", "", false)
def tyJ8 : Nat → FieldType := fun k => match k with
  | _ => .int
abbrev wsJ80 : List Cond := u_ws RJ8 TJ8 0
theorem nmJ8 : ∀ a, a < 0 → ∀ b, b < 0 → a ≠ b → (TJ8 a).2.1 ≠ (TJ8 b).2.1 := by decide +kernel
theorem tyJ8_ok : ∀ k, k < 0 → parseFieldDescriptor (TJ8 k).2.2.1 = some (tyJ8 k) := by decide +kernel
abbrev cJ8_newLength_cabcc : ByteArray := prog_31_method_27_code
def yJ8_newLength_cabcc : MethodName := ⟨RJ8, "newLength", "(III)I"⟩
abbrev cJ8_hugeLength_7cf53 : ByteArray := prog_31_method_28_code
def yJ8_hugeLength_7cf53 : MethodName := ⟨RJ8, "hugeLength", "(II)I"⟩
def RJ3 : String := "jdk/internal/util/Preconditions"
def TJ3 : u_T := fun k => match k with
  | _ => ("", "", "", false)
def tyJ3 : Nat → FieldType := fun k => match k with
  | _ => .int
abbrev wsJ30 : List Cond := u_ws RJ3 TJ3 0
theorem nmJ3 : ∀ a, a < 0 → ∀ b, b < 0 → a ≠ b → (TJ3 a).2.1 ≠ (TJ3 b).2.1 := by decide +kernel
theorem tyJ3_ok : ∀ k, k < 0 → parseFieldDescriptor (TJ3 k).2.2.1 = some (tyJ3 k) := by decide +kernel
abbrev cJ3_checkIndex_8e157 : ByteArray := prog_32_method_11_code
def yJ3_checkIndex_8e157 : MethodName := ⟨RJ3, "checkIndex", "(IILjava/util/function/BiFunction;)I"⟩
def RL : String := "CancelRowsLaw"
abbrev cL_law : ByteArray := code
def yL_law : MethodName := ⟨RL, "law", "([I)Z"⟩
def wsX3_mask : List Cond := .code yX3_mask cX3_mask 1 (some .long) :: ([])
def wsJ13_bitCount_95d88 : List Cond := .code yJ13_bitCount_95d88 cJ13_bitCount_95d88 2 (some .int) :: ([.constantLong RJ13 314 (6148914691236517205), .constantLong RJ13 316 (3689348814741910323), .constantLong RJ13 318 (1085102592571150095)])
def wsX3_openSum : List Cond := .code yX3_openSum cX3_openSum 5 (some .int) :: ([.methodLink RX3 7 yX3_mask, .static yX3_mask, .initialized RX3, .code yX3_mask cX3_mask 1 (some .long), .methodLink RX3 13 yJ13_bitCount_95d88, .static yJ13_bitCount_95d88, .initialized RJ13, .code yJ13_bitCount_95d88 cJ13_bitCount_95d88 2 (some .int), .constantLong RJ13 314 (6148914691236517205), .constantLong RJ13 316 (3689348814741910323), .constantLong RJ13 318 (1085102592571150095)])
def wsX3_peak : List Cond := .code yX3_peak cX3_peak 5 (some .int) :: ([.methodLink RX3 23 Lib.Math.abs.name, .static Lib.Math.abs.name, .initialized "java/lang/Math", .code Lib.Math.abs.name Lib.Math.abs.code 1 (some .int), .methodLink RX3 29 Lib.Math.max.name, .static Lib.Math.max.name, .code Lib.Math.max.name Lib.Math.max.code 2 (some .int), .methodLink RX3 19 yX3_openSum, .static yX3_openSum, .initialized RX3, .code yX3_openSum cX3_openSum 5 (some .int), .methodLink RX3 7 yX3_mask, .static yX3_mask, .code yX3_mask cX3_mask 1 (some .long), .methodLink RX3 13 yJ13_bitCount_95d88, .static yJ13_bitCount_95d88, .initialized RJ13, .code yJ13_bitCount_95d88 cJ13_bitCount_95d88 2 (some .int), .constantLong RJ13 314 (6148914691236517205), .constantLong RJ13 316 (3689348814741910323), .constantLong RJ13 318 (1085102592571150095)])
def wsX3_energy : List Cond := .code yX3_energy cX3_energy 6 (some .int) :: ([.methodLink RX3 19 yX3_openSum, .static yX3_openSum, .initialized RX3, .code yX3_openSum cX3_openSum 5 (some .int), .methodLink RX3 7 yX3_mask, .static yX3_mask, .code yX3_mask cX3_mask 1 (some .long), .methodLink RX3 13 yJ13_bitCount_95d88, .static yJ13_bitCount_95d88, .initialized RJ13, .code yJ13_bitCount_95d88 cJ13_bitCount_95d88 2 (some .int), .constantLong RJ13 314 (6148914691236517205), .constantLong RJ13 316 (3689348814741910323), .constantLong RJ13 318 (1085102592571150095)])
def wsX3_reversed : List Cond := .code yX3_reversed cX3_reversed 6 (some .long) :: ([])
def wsX3_opposite : List Cond := .code yX3_opposite cX3_opposite 3 (some .long) :: ([.methodLink RX3 7 yX3_mask, .static yX3_mask, .initialized RX3, .code yX3_mask cX3_mask 1 (some .long)])
def wsX3_turned : List Cond := .code yX3_turned cX3_turned 6 (some .long) :: ([.constantLong RX3 40 (2863311530), .methodLink RX3 33 yX3_reversed, .static yX3_reversed, .initialized RX3, .code yX3_reversed cX3_reversed 6 (some .long), .methodLink RX3 37 yX3_opposite, .static yX3_opposite, .code yX3_opposite cX3_opposite 3 (some .long), .methodLink RX3 7 yX3_mask, .static yX3_mask, .code yX3_mask cX3_mask 1 (some .long)])
def wsX3_leastTurned : List Cond := .code yX3_leastTurned cX3_leastTurned 6 (some .long) :: ([.methodLink RX3 46 Lib.MathLoose.min_long.x, .static Lib.MathLoose.min_long.x, .initialized "java/lang/Math", .code Lib.MathLoose.min_long.x Lib.MathLoose.min_long.code 4 (some .long), .methodLink RX3 42 yX3_turned, .static yX3_turned, .initialized RX3, .code yX3_turned cX3_turned 6 (some .long), .constantLong RX3 40 (2863311530), .methodLink RX3 33 yX3_reversed, .static yX3_reversed, .code yX3_reversed cX3_reversed 6 (some .long), .methodLink RX3 37 yX3_opposite, .static yX3_opposite, .code yX3_opposite cX3_opposite 3 (some .long), .methodLink RX3 7 yX3_mask, .static yX3_mask, .code yX3_mask cX3_mask 1 (some .long)])
def wsX0_init_r1 : List Cond := [Cond.methodLink RX0 1 objectInit, Cond.instanceMethod objectInit, Cond.code objectInit ⟨#[0xb1]⟩ 1 none, Cond.constant RX0 9 (1000000), Cond.fieldLink RX0 10 "CancelRows$BestRows" "value" "I", Cond.fieldLink RX0 23 "CancelRows$BestRows" "leastNumber" "I", Cond.fieldLink RX0 26 "CancelRows$BestRows" "many" "I", Cond.fieldLink RX0 29 "CancelRows$BestRows" "kinds" "I", Cond.methodLink RX0 14 yX3_peak, Cond.static yX3_peak, Cond.initialized RX3, Cond.code yX3_peak cX3_peak 5 (some .int), Cond.methodLink RX3 23 Lib.Math.abs.name, Cond.static Lib.Math.abs.name, Cond.initialized "java/lang/Math", Cond.code Lib.Math.abs.name Lib.Math.abs.code 1 (some .int), Cond.methodLink RX3 29 Lib.Math.max.name, Cond.static Lib.Math.max.name, Cond.code Lib.Math.max.name Lib.Math.max.code 2 (some .int), Cond.methodLink RX3 19 yX3_openSum, Cond.static yX3_openSum, Cond.code yX3_openSum cX3_openSum 5 (some .int), Cond.methodLink RX3 7 yX3_mask, Cond.static yX3_mask]
def wsX0_init_r2 : List Cond := [Cond.code yX3_mask cX3_mask 1 (some .long), Cond.methodLink RX3 13 yJ13_bitCount_95d88, Cond.static yJ13_bitCount_95d88, Cond.initialized RJ13, Cond.code yJ13_bitCount_95d88 cJ13_bitCount_95d88 2 (some .int), Cond.constantLong RJ13 314 (6148914691236517205), Cond.constantLong RJ13 316 (3689348814741910323), Cond.constantLong RJ13 318 (1085102592571150095), Cond.methodLink RX0 20 yX3_energy, Cond.static yX3_energy, Cond.code yX3_energy cX3_energy 6 (some .int), Cond.methodLink RX0 32 yX3_leastTurned, Cond.static yX3_leastTurned, Cond.code yX3_leastTurned cX3_leastTurned 6 (some .long), Cond.methodLink RX3 46 Lib.MathLoose.min_long.x, Cond.static Lib.MathLoose.min_long.x, Cond.code Lib.MathLoose.min_long.x Lib.MathLoose.min_long.code 4 (some .long), Cond.methodLink RX3 42 yX3_turned, Cond.static yX3_turned, Cond.code yX3_turned cX3_turned 6 (some .long), Cond.constantLong RX3 40 (2863311530), Cond.methodLink RX3 33 yX3_reversed, Cond.static yX3_reversed, Cond.code yX3_reversed cX3_reversed 6 (some .long)]
def wsX0_init_r3 : List Cond := [Cond.methodLink RX3 37 yX3_opposite, Cond.static yX3_opposite, Cond.code yX3_opposite cX3_opposite 3 (some .long)]
def wsX0_init : List Cond := .code yX0_init cX0_init 7 none :: ((wsX0_init_r1 ++ (wsX0_init_r2 ++ wsX0_init_r3)) ++ wsX00)
def wsJxa1e45_init_da8c8 : List Cond := .code yJxa1e45_init_da8c8 cJxa1e45_init_da8c8 1 none :: ([.methodLink RJxa1e45 1 objectInit, .instanceMethod objectInit, .code objectInit ⟨#[0xb1]⟩ 1 none])
def wsJxc12de_init_da8c8 : List Cond := .code yJxc12de_init_da8c8 cJxc12de_init_da8c8 1 none :: ([.fieldLink RJxc12de 7 "java/util/AbstractList" "modCount" "I", .methodLink RJxc12de 1 yJxa1e45_init_da8c8, .instanceMethod yJxa1e45_init_da8c8, .initialized RJxa1e45, .code yJxa1e45_init_da8c8 cJxa1e45_init_da8c8 1 none, .methodLink RJxa1e45 1 objectInit, .instanceMethod objectInit, .code objectInit ⟨#[0xb1]⟩ 1 none] ++ wsJx4a65c0)
def wsJx4a65c_init_da8c8 : List Cond := .code yJx4a65c_init_da8c8 cJx4a65c_init_da8c8 1 none :: ([.fieldLink RJx4a65c 39 "java/util/ArrayList" "DEFAULTCAPACITY_EMPTY_ELEMENTDATA" "[Ljava/lang/Object;", .fieldLink RJx4a65c 9 "java/util/ArrayList" "elementData" "[Ljava/lang/Object;", .methodLink RJx4a65c 1 yJxc12de_init_da8c8, .instanceMethod yJxc12de_init_da8c8, .initialized RJxc12de, .code yJxc12de_init_da8c8 cJxc12de_init_da8c8 1 none, .fieldLink RJxc12de 7 "java/util/AbstractList" "modCount" "I", .methodLink RJxc12de 1 yJxa1e45_init_da8c8, .instanceMethod yJxa1e45_init_da8c8, .initialized RJxa1e45, .code yJxa1e45_init_da8c8 cJxa1e45_init_da8c8 1 none, .methodLink RJxa1e45 1 objectInit, .instanceMethod objectInit, .code objectInit ⟨#[0xb1]⟩ 1 none] ++ wsJx4a65c0)
def wsX3_firstLeftOpen : List Cond := .code yX3_firstLeftOpen cX3_firstLeftOpen 6 (some .int) :: ([.methodLink RX3 19 yX3_openSum, .static yX3_openSum, .initialized RX3, .code yX3_openSum cX3_openSum 5 (some .int), .methodLink RX3 7 yX3_mask, .static yX3_mask, .code yX3_mask cX3_mask 1 (some .long), .methodLink RX3 13 yJ13_bitCount_95d88, .static yJ13_bitCount_95d88, .initialized RJ13, .code yJ13_bitCount_95d88 cJ13_bitCount_95d88 2 (some .int), .constantLong RJ13 314 (6148914691236517205), .constantLong RJ13 316 (3689348814741910323), .constantLong RJ13 318 (1085102592571150095)])
def wsX1_codeOf : List Cond := .code yX1_codeOf cX1_codeOf 4 (some .int) :: ([])
def wsJxd2413_init_da8c8 : List Cond := .code yJxd2413_init_da8c8 cJxd2413_init_da8c8 1 none :: ([.methodLink RJxd2413 1 objectInit, .instanceMethod objectInit, .code objectInit ⟨#[0xb1]⟩ 1 none])
def wsJ6_init_d00df : List Cond := .code yJ6_init_d00df cJ6_init_d00df 2 none :: ([.fieldLink RJ6 205 "java/lang/Integer" "value" "I", .methodLink RJ6 202 yJxd2413_init_da8c8, .instanceMethod yJxd2413_init_da8c8, .initialized RJxd2413, .code yJxd2413_init_da8c8 cJxd2413_init_da8c8 1 none, .methodLink RJxd2413 1 objectInit, .instanceMethod objectInit, .code objectInit ⟨#[0xb1]⟩ 1 none] ++ wsJ60)
def wsJ6_valueOf_2dffe : List Cond := .code yJ6_valueOf_2dffe cJ6_valueOf_2dffe 1 (some (.object "java/lang/Integer")) :: ([.fieldLink RJ6 191 "java/lang/Integer$IntegerCache" "high" "I", .fieldLink RJ6 195 "java/lang/Integer$IntegerCache" "cache" "[Ljava/lang/Integer;", .classLink RJ6 1 RJ6, .instantiable RJ6 1, .initialized RJ6, .methodLink RJ6 199 yJ6_init_d00df, .instanceMethod yJ6_init_d00df, .code yJ6_init_d00df cJ6_init_d00df 2 none, .fieldLink RJ6 205 "java/lang/Integer" "value" "I", .methodLink RJ6 202 yJxd2413_init_da8c8, .instanceMethod yJxd2413_init_da8c8, .initialized RJxd2413, .code yJxd2413_init_da8c8 cJxd2413_init_da8c8 1 none, .methodLink RJxd2413 1 objectInit, .instanceMethod objectInit, .code objectInit ⟨#[0xb1]⟩ 1 none] ++ wsJ60)
def wsJ8_hugeLength_7cf53 : List Cond := .code yJ8_hugeLength_7cf53 cJ8_hugeLength_7cf53 3 (some .int) :: ([.constant RJ8 200 (2147483639)])
def wsJ8_newLength_cabcc : List Cond := .code yJ8_newLength_cabcc cJ8_newLength_cabcc 4 (some .int) :: ([.methodLink RJ8 194 Lib.Math.max.name, .static Lib.Math.max.name, .initialized "java/lang/Math", .code Lib.Math.max.name Lib.Math.max.code 2 (some .int), .constant RJ8 200 (2147483639), .methodLink RJ8 201 yJ8_hugeLength_7cf53, .static yJ8_hugeLength_7cf53, .initialized RJ8, .code yJ8_hugeLength_7cf53 cJ8_hugeLength_7cf53 3 (some .int)])
def wsJ7_copyOf_6403c : List Cond := .code yJ7_copyOf_6403c cJ7_copyOf_6403c 4 (some (.array (.object "java/lang/Object"))) :: ([.classLink RJ7 110 "[Ljava/lang/Object;", .classLink RJ7 2 "java/lang/Object", .methodLink RJ7 304 Lib.Math.min.name, .static Lib.Math.min.name, .initialized "java/lang/Math", .code Lib.Math.min.name Lib.Math.min.code 2 (some .int), .methodLink RJ7 150 arraycopyName, .native arraycopyName, .static arraycopyName, .initialized "java/lang/System"])
def wsJ7_copyOf_1904c : List Cond := .code yJ7_copyOf_1904c cJ7_copyOf_1904c 2 (some (.array (.object "java/lang/Object"))) :: ([.methodLink RJ7 86 ⟨"java/lang/Object", "getClass", "()Ljava/lang/Class;"⟩, .selects "[Ljava/lang/Object;" ⟨"java/lang/Object", "getClass", "()Ljava/lang/Class;"⟩ ⟨"java/lang/Object", "getClass", "()Ljava/lang/Class;"⟩, .instanceMethod ⟨"java/lang/Object", "getClass", "()Ljava/lang/Class;"⟩, .native ⟨"java/lang/Object", "getClass", "()Ljava/lang/Class;"⟩, .methodLink RJ7 300 yJ7_copyOf_6403c, .static yJ7_copyOf_6403c, .initialized RJ7, .code yJ7_copyOf_6403c cJ7_copyOf_6403c 4 (some (.array (.object "java/lang/Object"))), .classLink RJ7 110 "[Ljava/lang/Object;", .classLink RJ7 2 "java/lang/Object", .methodLink RJ7 304 Lib.Math.min.name, .static Lib.Math.min.name, .initialized "java/lang/Math", .code Lib.Math.min.name Lib.Math.min.code 2 (some .int), .methodLink RJ7 150 arraycopyName, .native arraycopyName, .static arraycopyName, .initialized "java/lang/System"])
def wsJx4a65c_grow_92f84_r1 : List Cond := [Cond.fieldLink RJx4a65c 9 "java/util/ArrayList" "elementData" "[Ljava/lang/Object;", Cond.fieldLink RJx4a65c 39 "java/util/ArrayList" "DEFAULTCAPACITY_EMPTY_ELEMENTDATA" "[Ljava/lang/Object;", Cond.methodLink RJx4a65c 79 Lib.Math.max.name, Cond.static Lib.Math.max.name, Cond.initialized "java/lang/Math", Cond.code Lib.Math.max.name Lib.Math.max.code 2 (some .int), Cond.classLink RJx4a65c 7 "java/lang/Object", Cond.methodLink RJx4a65c 73 yJ8_newLength_cabcc, Cond.static yJ8_newLength_cabcc, Cond.initialized RJ8, Cond.code yJ8_newLength_cabcc cJ8_newLength_cabcc 4 (some .int), Cond.methodLink RJ8 194 Lib.Math.max.name, Cond.constant RJ8 200 (2147483639), Cond.methodLink RJ8 201 yJ8_hugeLength_7cf53, Cond.static yJ8_hugeLength_7cf53, Cond.code yJ8_hugeLength_7cf53 cJ8_hugeLength_7cf53 3 (some .int), Cond.methodLink RJx4a65c 66 yJ7_copyOf_1904c, Cond.static yJ7_copyOf_1904c, Cond.initialized RJ7, Cond.code yJ7_copyOf_1904c cJ7_copyOf_1904c 2 (some (.array (.object "java/lang/Object"))), Cond.methodLink RJ7 86 ⟨"java/lang/Object", "getClass", "()Ljava/lang/Class;"⟩, Cond.selects "[Ljava/lang/Object;" ⟨"java/lang/Object", "getClass", "()Ljava/lang/Class;"⟩ ⟨"java/lang/Object", "getClass", "()Ljava/lang/Class;"⟩, Cond.instanceMethod ⟨"java/lang/Object", "getClass", "()Ljava/lang/Class;"⟩, Cond.native ⟨"java/lang/Object", "getClass", "()Ljava/lang/Class;"⟩]
def wsJx4a65c_grow_92f84_r2 : List Cond := [Cond.methodLink RJ7 300 yJ7_copyOf_6403c, Cond.static yJ7_copyOf_6403c, Cond.code yJ7_copyOf_6403c cJ7_copyOf_6403c 4 (some (.array (.object "java/lang/Object"))), Cond.classLink RJ7 110 "[Ljava/lang/Object;", Cond.classLink RJ7 2 "java/lang/Object", Cond.methodLink RJ7 304 Lib.Math.min.name, Cond.static Lib.Math.min.name, Cond.code Lib.Math.min.name Lib.Math.min.code 2 (some .int), Cond.methodLink RJ7 150 arraycopyName, Cond.native arraycopyName, Cond.static arraycopyName, Cond.initialized "java/lang/System"]
def wsJx4a65c_grow_92f84 : List Cond := .code yJx4a65c_grow_92f84 cJx4a65c_grow_92f84 4 (some (.array (.object "java/lang/Object"))) :: ((wsJx4a65c_grow_92f84_r1 ++ wsJx4a65c_grow_92f84_r2) ++ wsJx4a65c0)
def wsJx4a65c_grow_d5877_r1 : List Cond := [Cond.fieldLink RJx4a65c 48 "java/util/ArrayList" "size" "I", Cond.methodLink RJx4a65c 69 yJx4a65c_grow_92f84, Cond.instanceMethod yJx4a65c_grow_92f84, Cond.selects RJx4a65c yJx4a65c_grow_92f84 yJx4a65c_grow_92f84, Cond.initialized RJx4a65c, Cond.code yJx4a65c_grow_92f84 cJx4a65c_grow_92f84 4 (some (.array (.object "java/lang/Object"))), Cond.fieldLink RJx4a65c 9 "java/util/ArrayList" "elementData" "[Ljava/lang/Object;", Cond.fieldLink RJx4a65c 39 "java/util/ArrayList" "DEFAULTCAPACITY_EMPTY_ELEMENTDATA" "[Ljava/lang/Object;", Cond.methodLink RJx4a65c 79 Lib.Math.max.name, Cond.static Lib.Math.max.name, Cond.initialized "java/lang/Math", Cond.code Lib.Math.max.name Lib.Math.max.code 2 (some .int), Cond.classLink RJx4a65c 7 "java/lang/Object", Cond.methodLink RJx4a65c 73 yJ8_newLength_cabcc, Cond.static yJ8_newLength_cabcc, Cond.initialized RJ8, Cond.code yJ8_newLength_cabcc cJ8_newLength_cabcc 4 (some .int), Cond.methodLink RJ8 194 Lib.Math.max.name, Cond.constant RJ8 200 (2147483639), Cond.methodLink RJ8 201 yJ8_hugeLength_7cf53, Cond.static yJ8_hugeLength_7cf53, Cond.code yJ8_hugeLength_7cf53 cJ8_hugeLength_7cf53 3 (some .int), Cond.methodLink RJx4a65c 66 yJ7_copyOf_1904c, Cond.static yJ7_copyOf_1904c]
def wsJx4a65c_grow_d5877_r2 : List Cond := [Cond.initialized RJ7, Cond.code yJ7_copyOf_1904c cJ7_copyOf_1904c 2 (some (.array (.object "java/lang/Object"))), Cond.methodLink RJ7 86 ⟨"java/lang/Object", "getClass", "()Ljava/lang/Class;"⟩, Cond.selects "[Ljava/lang/Object;" ⟨"java/lang/Object", "getClass", "()Ljava/lang/Class;"⟩ ⟨"java/lang/Object", "getClass", "()Ljava/lang/Class;"⟩, Cond.instanceMethod ⟨"java/lang/Object", "getClass", "()Ljava/lang/Class;"⟩, Cond.native ⟨"java/lang/Object", "getClass", "()Ljava/lang/Class;"⟩, Cond.methodLink RJ7 300 yJ7_copyOf_6403c, Cond.static yJ7_copyOf_6403c, Cond.code yJ7_copyOf_6403c cJ7_copyOf_6403c 4 (some (.array (.object "java/lang/Object"))), Cond.classLink RJ7 110 "[Ljava/lang/Object;", Cond.classLink RJ7 2 "java/lang/Object", Cond.methodLink RJ7 304 Lib.Math.min.name, Cond.static Lib.Math.min.name, Cond.code Lib.Math.min.name Lib.Math.min.code 2 (some .int), Cond.methodLink RJ7 150 arraycopyName, Cond.native arraycopyName, Cond.static arraycopyName, Cond.initialized "java/lang/System"]
def wsJx4a65c_grow_d5877 : List Cond := .code yJx4a65c_grow_d5877 cJx4a65c_grow_d5877 1 (some (.array (.object "java/lang/Object"))) :: ((wsJx4a65c_grow_d5877_r1 ++ wsJx4a65c_grow_d5877_r2) ++ wsJx4a65c0)
def wsJx4a65c_add_72be8_r1 : List Cond := [Cond.fieldLink RJx4a65c 48 "java/util/ArrayList" "size" "I", Cond.methodLink RJx4a65c 129 yJx4a65c_grow_d5877, Cond.instanceMethod yJx4a65c_grow_d5877, Cond.selects RJx4a65c yJx4a65c_grow_d5877 yJx4a65c_grow_d5877, Cond.initialized RJx4a65c, Cond.code yJx4a65c_grow_d5877 cJx4a65c_grow_d5877 1 (some (.array (.object "java/lang/Object"))), Cond.methodLink RJx4a65c 69 yJx4a65c_grow_92f84, Cond.instanceMethod yJx4a65c_grow_92f84, Cond.selects RJx4a65c yJx4a65c_grow_92f84 yJx4a65c_grow_92f84, Cond.code yJx4a65c_grow_92f84 cJx4a65c_grow_92f84 4 (some (.array (.object "java/lang/Object"))), Cond.fieldLink RJx4a65c 9 "java/util/ArrayList" "elementData" "[Ljava/lang/Object;", Cond.fieldLink RJx4a65c 39 "java/util/ArrayList" "DEFAULTCAPACITY_EMPTY_ELEMENTDATA" "[Ljava/lang/Object;", Cond.methodLink RJx4a65c 79 Lib.Math.max.name, Cond.static Lib.Math.max.name, Cond.initialized "java/lang/Math", Cond.code Lib.Math.max.name Lib.Math.max.code 2 (some .int), Cond.classLink RJx4a65c 7 "java/lang/Object", Cond.methodLink RJx4a65c 73 yJ8_newLength_cabcc, Cond.static yJ8_newLength_cabcc, Cond.initialized RJ8, Cond.code yJ8_newLength_cabcc cJ8_newLength_cabcc 4 (some .int), Cond.methodLink RJ8 194 Lib.Math.max.name, Cond.constant RJ8 200 (2147483639), Cond.methodLink RJ8 201 yJ8_hugeLength_7cf53]
def wsJx4a65c_add_72be8_r2 : List Cond := [Cond.static yJ8_hugeLength_7cf53, Cond.code yJ8_hugeLength_7cf53 cJ8_hugeLength_7cf53 3 (some .int), Cond.methodLink RJx4a65c 66 yJ7_copyOf_1904c, Cond.static yJ7_copyOf_1904c, Cond.initialized RJ7, Cond.code yJ7_copyOf_1904c cJ7_copyOf_1904c 2 (some (.array (.object "java/lang/Object"))), Cond.methodLink RJ7 86 ⟨"java/lang/Object", "getClass", "()Ljava/lang/Class;"⟩, Cond.selects "[Ljava/lang/Object;" ⟨"java/lang/Object", "getClass", "()Ljava/lang/Class;"⟩ ⟨"java/lang/Object", "getClass", "()Ljava/lang/Class;"⟩, Cond.instanceMethod ⟨"java/lang/Object", "getClass", "()Ljava/lang/Class;"⟩, Cond.native ⟨"java/lang/Object", "getClass", "()Ljava/lang/Class;"⟩, Cond.methodLink RJ7 300 yJ7_copyOf_6403c, Cond.static yJ7_copyOf_6403c, Cond.code yJ7_copyOf_6403c cJ7_copyOf_6403c 4 (some (.array (.object "java/lang/Object"))), Cond.classLink RJ7 110 "[Ljava/lang/Object;", Cond.classLink RJ7 2 "java/lang/Object", Cond.methodLink RJ7 304 Lib.Math.min.name, Cond.static Lib.Math.min.name, Cond.code Lib.Math.min.name Lib.Math.min.code 2 (some .int), Cond.methodLink RJ7 150 arraycopyName, Cond.native arraycopyName, Cond.static arraycopyName, Cond.initialized "java/lang/System"]
def wsJx4a65c_add_72be8 : List Cond := .code yJx4a65c_add_72be8 cJx4a65c_add_72be8 4 none :: ((wsJx4a65c_add_72be8_r1 ++ wsJx4a65c_add_72be8_r2) ++ wsJx4a65c0)
def wsJx4a65c_add_9ea2d_r1 : List Cond := [Cond.fieldLink RJx4a65c 63 "java/util/ArrayList" "modCount" "I", Cond.sameField "java/util/ArrayList" "java/util/AbstractList" "modCount" "I", Cond.fieldLink RJx4a65c 9 "java/util/ArrayList" "elementData" "[Ljava/lang/Object;", Cond.fieldLink RJx4a65c 48 "java/util/ArrayList" "size" "I", Cond.methodLink RJx4a65c 131 yJx4a65c_add_72be8, Cond.instanceMethod yJx4a65c_add_72be8, Cond.selects RJx4a65c yJx4a65c_add_72be8 yJx4a65c_add_72be8, Cond.initialized RJx4a65c, Cond.code yJx4a65c_add_72be8 cJx4a65c_add_72be8 4 none, Cond.methodLink RJx4a65c 129 yJx4a65c_grow_d5877, Cond.instanceMethod yJx4a65c_grow_d5877, Cond.selects RJx4a65c yJx4a65c_grow_d5877 yJx4a65c_grow_d5877, Cond.code yJx4a65c_grow_d5877 cJx4a65c_grow_d5877 1 (some (.array (.object "java/lang/Object"))), Cond.methodLink RJx4a65c 69 yJx4a65c_grow_92f84, Cond.instanceMethod yJx4a65c_grow_92f84, Cond.selects RJx4a65c yJx4a65c_grow_92f84 yJx4a65c_grow_92f84, Cond.code yJx4a65c_grow_92f84 cJx4a65c_grow_92f84 4 (some (.array (.object "java/lang/Object"))), Cond.fieldLink RJx4a65c 39 "java/util/ArrayList" "DEFAULTCAPACITY_EMPTY_ELEMENTDATA" "[Ljava/lang/Object;", Cond.methodLink RJx4a65c 79 Lib.Math.max.name, Cond.static Lib.Math.max.name, Cond.initialized "java/lang/Math", Cond.code Lib.Math.max.name Lib.Math.max.code 2 (some .int), Cond.classLink RJx4a65c 7 "java/lang/Object", Cond.methodLink RJx4a65c 73 yJ8_newLength_cabcc]
def wsJx4a65c_add_9ea2d_r2 : List Cond := [Cond.static yJ8_newLength_cabcc, Cond.initialized RJ8, Cond.code yJ8_newLength_cabcc cJ8_newLength_cabcc 4 (some .int), Cond.methodLink RJ8 194 Lib.Math.max.name, Cond.constant RJ8 200 (2147483639), Cond.methodLink RJ8 201 yJ8_hugeLength_7cf53, Cond.static yJ8_hugeLength_7cf53, Cond.code yJ8_hugeLength_7cf53 cJ8_hugeLength_7cf53 3 (some .int), Cond.methodLink RJx4a65c 66 yJ7_copyOf_1904c, Cond.static yJ7_copyOf_1904c, Cond.initialized RJ7, Cond.code yJ7_copyOf_1904c cJ7_copyOf_1904c 2 (some (.array (.object "java/lang/Object"))), Cond.methodLink RJ7 86 ⟨"java/lang/Object", "getClass", "()Ljava/lang/Class;"⟩, Cond.selects "[Ljava/lang/Object;" ⟨"java/lang/Object", "getClass", "()Ljava/lang/Class;"⟩ ⟨"java/lang/Object", "getClass", "()Ljava/lang/Class;"⟩, Cond.instanceMethod ⟨"java/lang/Object", "getClass", "()Ljava/lang/Class;"⟩, Cond.native ⟨"java/lang/Object", "getClass", "()Ljava/lang/Class;"⟩, Cond.methodLink RJ7 300 yJ7_copyOf_6403c, Cond.static yJ7_copyOf_6403c, Cond.code yJ7_copyOf_6403c cJ7_copyOf_6403c 4 (some (.array (.object "java/lang/Object"))), Cond.classLink RJ7 110 "[Ljava/lang/Object;", Cond.classLink RJ7 2 "java/lang/Object", Cond.methodLink RJ7 304 Lib.Math.min.name, Cond.static Lib.Math.min.name, Cond.code Lib.Math.min.name Lib.Math.min.code 2 (some .int)]
def wsJx4a65c_add_9ea2d_r3 : List Cond := [Cond.methodLink RJ7 150 arraycopyName, Cond.native arraycopyName, Cond.static arraycopyName, Cond.initialized "java/lang/System"]
def wsJx4a65c_add_9ea2d : List Cond := .code yJx4a65c_add_9ea2d cJx4a65c_add_9ea2d 2 (some .boolean) :: ((wsJx4a65c_add_9ea2d_r1 ++ (wsJx4a65c_add_9ea2d_r2 ++ wsJx4a65c_add_9ea2d_r3)) ++ wsJx4a65c0)
def wsX1_keepIfLeast_r1 : List Cond := [Cond.fieldLink RX1 16 "CancelRows$PairList" "codes" "Ljava/util/ArrayList;", Cond.methodLink RX1 43 yX1_codeOf, Cond.static yX1_codeOf, Cond.initialized RX1, Cond.code yX1_codeOf cX1_codeOf 4 (some .int), Cond.methodLink RX1 47 yX3_turned, Cond.static yX3_turned, Cond.initialized RX3, Cond.code yX3_turned cX3_turned 6 (some .long), Cond.constantLong RX3 40 (2863311530), Cond.methodLink RX3 33 yX3_reversed, Cond.static yX3_reversed, Cond.code yX3_reversed cX3_reversed 6 (some .long), Cond.methodLink RX3 37 yX3_opposite, Cond.static yX3_opposite, Cond.code yX3_opposite cX3_opposite 3 (some .long), Cond.methodLink RX3 7 yX3_mask, Cond.static yX3_mask, Cond.code yX3_mask cX3_mask 1 (some .long), Cond.methodLink RX1 51 yJ6_valueOf_2dffe, Cond.static yJ6_valueOf_2dffe, Cond.initialized RJ6, Cond.code yJ6_valueOf_2dffe cJ6_valueOf_2dffe 1 (some (.object "java/lang/Integer")), Cond.fieldLink RJ6 191 "java/lang/Integer$IntegerCache" "high" "I"]
def wsX1_keepIfLeast_r2 : List Cond := [Cond.fieldLink RJ6 195 "java/lang/Integer$IntegerCache" "cache" "[Ljava/lang/Integer;", Cond.classLink RJ6 1 RJ6, Cond.instantiable RJ6 1, Cond.methodLink RJ6 199 yJ6_init_d00df, Cond.instanceMethod yJ6_init_d00df, Cond.code yJ6_init_d00df cJ6_init_d00df 2 none, Cond.fieldLink RJ6 205 "java/lang/Integer" "value" "I", Cond.methodLink RJ6 202 yJxd2413_init_da8c8, Cond.instanceMethod yJxd2413_init_da8c8, Cond.initialized RJxd2413, Cond.code yJxd2413_init_da8c8 cJxd2413_init_da8c8 1 none, Cond.methodLink RJxd2413 1 objectInit, Cond.instanceMethod objectInit, Cond.code objectInit ⟨#[0xb1]⟩ 1 none, Cond.methodLink RX1 55 yJx4a65c_add_9ea2d, Cond.instanceMethod yJx4a65c_add_9ea2d, Cond.selects RJx4a65c yJx4a65c_add_9ea2d yJx4a65c_add_9ea2d, Cond.initialized RJx4a65c, Cond.code yJx4a65c_add_9ea2d cJx4a65c_add_9ea2d 2 (some .boolean), Cond.fieldLink RJx4a65c 63 "java/util/ArrayList" "modCount" "I", Cond.sameField "java/util/ArrayList" "java/util/AbstractList" "modCount" "I", Cond.fieldLink RJx4a65c 9 "java/util/ArrayList" "elementData" "[Ljava/lang/Object;", Cond.fieldLink RJx4a65c 48 "java/util/ArrayList" "size" "I", Cond.methodLink RJx4a65c 131 yJx4a65c_add_72be8]
def wsX1_keepIfLeast_r3 : List Cond := [Cond.instanceMethod yJx4a65c_add_72be8, Cond.selects RJx4a65c yJx4a65c_add_72be8 yJx4a65c_add_72be8, Cond.code yJx4a65c_add_72be8 cJx4a65c_add_72be8 4 none, Cond.methodLink RJx4a65c 129 yJx4a65c_grow_d5877, Cond.instanceMethod yJx4a65c_grow_d5877, Cond.selects RJx4a65c yJx4a65c_grow_d5877 yJx4a65c_grow_d5877, Cond.code yJx4a65c_grow_d5877 cJx4a65c_grow_d5877 1 (some (.array (.object "java/lang/Object"))), Cond.methodLink RJx4a65c 69 yJx4a65c_grow_92f84, Cond.instanceMethod yJx4a65c_grow_92f84, Cond.selects RJx4a65c yJx4a65c_grow_92f84 yJx4a65c_grow_92f84, Cond.code yJx4a65c_grow_92f84 cJx4a65c_grow_92f84 4 (some (.array (.object "java/lang/Object"))), Cond.fieldLink RJx4a65c 39 "java/util/ArrayList" "DEFAULTCAPACITY_EMPTY_ELEMENTDATA" "[Ljava/lang/Object;", Cond.methodLink RJx4a65c 79 Lib.Math.max.name, Cond.static Lib.Math.max.name, Cond.initialized "java/lang/Math", Cond.code Lib.Math.max.name Lib.Math.max.code 2 (some .int), Cond.classLink RJx4a65c 7 "java/lang/Object", Cond.methodLink RJx4a65c 73 yJ8_newLength_cabcc, Cond.static yJ8_newLength_cabcc, Cond.initialized RJ8, Cond.code yJ8_newLength_cabcc cJ8_newLength_cabcc 4 (some .int), Cond.methodLink RJ8 194 Lib.Math.max.name, Cond.constant RJ8 200 (2147483639), Cond.methodLink RJ8 201 yJ8_hugeLength_7cf53]
def wsX1_keepIfLeast_r4 : List Cond := [Cond.static yJ8_hugeLength_7cf53, Cond.code yJ8_hugeLength_7cf53 cJ8_hugeLength_7cf53 3 (some .int), Cond.methodLink RJx4a65c 66 yJ7_copyOf_1904c, Cond.static yJ7_copyOf_1904c, Cond.initialized RJ7, Cond.code yJ7_copyOf_1904c cJ7_copyOf_1904c 2 (some (.array (.object "java/lang/Object"))), Cond.methodLink RJ7 86 ⟨"java/lang/Object", "getClass", "()Ljava/lang/Class;"⟩, Cond.selects "[Ljava/lang/Object;" ⟨"java/lang/Object", "getClass", "()Ljava/lang/Class;"⟩ ⟨"java/lang/Object", "getClass", "()Ljava/lang/Class;"⟩, Cond.instanceMethod ⟨"java/lang/Object", "getClass", "()Ljava/lang/Class;"⟩, Cond.native ⟨"java/lang/Object", "getClass", "()Ljava/lang/Class;"⟩, Cond.methodLink RJ7 300 yJ7_copyOf_6403c, Cond.static yJ7_copyOf_6403c, Cond.code yJ7_copyOf_6403c cJ7_copyOf_6403c 4 (some (.array (.object "java/lang/Object"))), Cond.classLink RJ7 110 "[Ljava/lang/Object;", Cond.classLink RJ7 2 "java/lang/Object", Cond.methodLink RJ7 304 Lib.Math.min.name, Cond.static Lib.Math.min.name, Cond.code Lib.Math.min.name Lib.Math.min.code 2 (some .int), Cond.methodLink RJ7 150 arraycopyName, Cond.native arraycopyName, Cond.static arraycopyName, Cond.initialized "java/lang/System"]
def wsX1_keepIfLeast : List Cond := .code yX1_keepIfLeast cX1_keepIfLeast 11 none :: ((wsX1_keepIfLeast_r1 ++ (wsX1_keepIfLeast_r2 ++ (wsX1_keepIfLeast_r3 ++ wsX1_keepIfLeast_r4))) ++ wsX10 ++ wsJ60 ++ wsJx4a65c0)
def wsX1_init_r1 : List Cond := [Cond.methodLink RX1 1 objectInit, Cond.instanceMethod objectInit, Cond.code objectInit ⟨#[0xb1]⟩ 1 none, Cond.fieldLink RX1 7 "CancelRows$PairList" "many" "I", Cond.classLink RX1 13 RJx4a65c, Cond.instantiable RJx4a65c 3, Cond.initialized RJx4a65c, Cond.fieldLink RX1 16 "CancelRows$PairList" "codes" "Ljava/util/ArrayList;", Cond.methodLink RX1 15 yJx4a65c_init_da8c8, Cond.instanceMethod yJx4a65c_init_da8c8, Cond.code yJx4a65c_init_da8c8 cJx4a65c_init_da8c8 1 none, Cond.fieldLink RJx4a65c 39 "java/util/ArrayList" "DEFAULTCAPACITY_EMPTY_ELEMENTDATA" "[Ljava/lang/Object;", Cond.fieldLink RJx4a65c 9 "java/util/ArrayList" "elementData" "[Ljava/lang/Object;", Cond.methodLink RJx4a65c 1 yJxc12de_init_da8c8, Cond.instanceMethod yJxc12de_init_da8c8, Cond.initialized RJxc12de, Cond.code yJxc12de_init_da8c8 cJxc12de_init_da8c8 1 none, Cond.fieldLink RJxc12de 7 "java/util/AbstractList" "modCount" "I", Cond.methodLink RJxc12de 1 yJxa1e45_init_da8c8, Cond.instanceMethod yJxa1e45_init_da8c8, Cond.initialized RJxa1e45, Cond.code yJxa1e45_init_da8c8 cJxa1e45_init_da8c8 1 none, Cond.methodLink RJxa1e45 1 objectInit, Cond.methodLink RX1 20 yX3_firstLeftOpen]
def wsX1_init_r2 : List Cond := [Cond.static yX3_firstLeftOpen, Cond.initialized RX3, Cond.code yX3_firstLeftOpen cX3_firstLeftOpen 6 (some .int), Cond.methodLink RX3 19 yX3_openSum, Cond.static yX3_openSum, Cond.code yX3_openSum cX3_openSum 5 (some .int), Cond.methodLink RX3 7 yX3_mask, Cond.static yX3_mask, Cond.code yX3_mask cX3_mask 1 (some .long), Cond.methodLink RX3 13 yJ13_bitCount_95d88, Cond.static yJ13_bitCount_95d88, Cond.initialized RJ13, Cond.code yJ13_bitCount_95d88 cJ13_bitCount_95d88 2 (some .int), Cond.constantLong RJ13 314 (6148914691236517205), Cond.constantLong RJ13 316 (3689348814741910323), Cond.constantLong RJ13 318 (1085102592571150095), Cond.methodLink RX1 26 yX1_keepIfLeast, Cond.instanceMethod yX1_keepIfLeast, Cond.selects RX1 yX1_keepIfLeast yX1_keepIfLeast, Cond.initialized RX1, Cond.code yX1_keepIfLeast cX1_keepIfLeast 11 none, Cond.methodLink RX1 43 yX1_codeOf, Cond.static yX1_codeOf, Cond.code yX1_codeOf cX1_codeOf 4 (some .int)]
def wsX1_init_r3 : List Cond := [Cond.methodLink RX1 47 yX3_turned, Cond.static yX3_turned, Cond.code yX3_turned cX3_turned 6 (some .long), Cond.constantLong RX3 40 (2863311530), Cond.methodLink RX3 33 yX3_reversed, Cond.static yX3_reversed, Cond.code yX3_reversed cX3_reversed 6 (some .long), Cond.methodLink RX3 37 yX3_opposite, Cond.static yX3_opposite, Cond.code yX3_opposite cX3_opposite 3 (some .long), Cond.methodLink RX1 51 yJ6_valueOf_2dffe, Cond.static yJ6_valueOf_2dffe, Cond.initialized RJ6, Cond.code yJ6_valueOf_2dffe cJ6_valueOf_2dffe 1 (some (.object "java/lang/Integer")), Cond.fieldLink RJ6 191 "java/lang/Integer$IntegerCache" "high" "I", Cond.fieldLink RJ6 195 "java/lang/Integer$IntegerCache" "cache" "[Ljava/lang/Integer;", Cond.classLink RJ6 1 RJ6, Cond.instantiable RJ6 1, Cond.methodLink RJ6 199 yJ6_init_d00df, Cond.instanceMethod yJ6_init_d00df, Cond.code yJ6_init_d00df cJ6_init_d00df 2 none, Cond.fieldLink RJ6 205 "java/lang/Integer" "value" "I", Cond.methodLink RJ6 202 yJxd2413_init_da8c8, Cond.instanceMethod yJxd2413_init_da8c8]
def wsX1_init_r4 : List Cond := [Cond.initialized RJxd2413, Cond.code yJxd2413_init_da8c8 cJxd2413_init_da8c8 1 none, Cond.methodLink RJxd2413 1 objectInit, Cond.methodLink RX1 55 yJx4a65c_add_9ea2d, Cond.instanceMethod yJx4a65c_add_9ea2d, Cond.selects RJx4a65c yJx4a65c_add_9ea2d yJx4a65c_add_9ea2d, Cond.code yJx4a65c_add_9ea2d cJx4a65c_add_9ea2d 2 (some .boolean), Cond.fieldLink RJx4a65c 63 "java/util/ArrayList" "modCount" "I", Cond.sameField "java/util/ArrayList" "java/util/AbstractList" "modCount" "I", Cond.fieldLink RJx4a65c 48 "java/util/ArrayList" "size" "I", Cond.methodLink RJx4a65c 131 yJx4a65c_add_72be8, Cond.instanceMethod yJx4a65c_add_72be8, Cond.selects RJx4a65c yJx4a65c_add_72be8 yJx4a65c_add_72be8, Cond.code yJx4a65c_add_72be8 cJx4a65c_add_72be8 4 none, Cond.methodLink RJx4a65c 129 yJx4a65c_grow_d5877, Cond.instanceMethod yJx4a65c_grow_d5877, Cond.selects RJx4a65c yJx4a65c_grow_d5877 yJx4a65c_grow_d5877, Cond.code yJx4a65c_grow_d5877 cJx4a65c_grow_d5877 1 (some (.array (.object "java/lang/Object"))), Cond.methodLink RJx4a65c 69 yJx4a65c_grow_92f84, Cond.instanceMethod yJx4a65c_grow_92f84, Cond.selects RJx4a65c yJx4a65c_grow_92f84 yJx4a65c_grow_92f84, Cond.code yJx4a65c_grow_92f84 cJx4a65c_grow_92f84 4 (some (.array (.object "java/lang/Object"))), Cond.methodLink RJx4a65c 79 Lib.Math.max.name, Cond.static Lib.Math.max.name]
def wsX1_init_r5 : List Cond := [Cond.initialized "java/lang/Math", Cond.code Lib.Math.max.name Lib.Math.max.code 2 (some .int), Cond.classLink RJx4a65c 7 "java/lang/Object", Cond.methodLink RJx4a65c 73 yJ8_newLength_cabcc, Cond.static yJ8_newLength_cabcc, Cond.initialized RJ8, Cond.code yJ8_newLength_cabcc cJ8_newLength_cabcc 4 (some .int), Cond.methodLink RJ8 194 Lib.Math.max.name, Cond.constant RJ8 200 (2147483639), Cond.methodLink RJ8 201 yJ8_hugeLength_7cf53, Cond.static yJ8_hugeLength_7cf53, Cond.code yJ8_hugeLength_7cf53 cJ8_hugeLength_7cf53 3 (some .int), Cond.methodLink RJx4a65c 66 yJ7_copyOf_1904c, Cond.static yJ7_copyOf_1904c, Cond.initialized RJ7, Cond.code yJ7_copyOf_1904c cJ7_copyOf_1904c 2 (some (.array (.object "java/lang/Object"))), Cond.methodLink RJ7 86 ⟨"java/lang/Object", "getClass", "()Ljava/lang/Class;"⟩, Cond.selects "[Ljava/lang/Object;" ⟨"java/lang/Object", "getClass", "()Ljava/lang/Class;"⟩ ⟨"java/lang/Object", "getClass", "()Ljava/lang/Class;"⟩, Cond.instanceMethod ⟨"java/lang/Object", "getClass", "()Ljava/lang/Class;"⟩, Cond.native ⟨"java/lang/Object", "getClass", "()Ljava/lang/Class;"⟩, Cond.methodLink RJ7 300 yJ7_copyOf_6403c, Cond.static yJ7_copyOf_6403c, Cond.code yJ7_copyOf_6403c cJ7_copyOf_6403c 4 (some (.array (.object "java/lang/Object"))), Cond.classLink RJ7 110 "[Ljava/lang/Object;"]
def wsX1_init_r6 : List Cond := [Cond.classLink RJ7 2 "java/lang/Object", Cond.methodLink RJ7 304 Lib.Math.min.name, Cond.static Lib.Math.min.name, Cond.code Lib.Math.min.name Lib.Math.min.code 2 (some .int), Cond.methodLink RJ7 150 arraycopyName, Cond.native arraycopyName, Cond.static arraycopyName, Cond.initialized "java/lang/System"]
def wsX1_init : List Cond := .code yX1_init cX1_init 5 none :: ((wsX1_init_r1 ++ (wsX1_init_r2 ++ (wsX1_init_r3 ++ (wsX1_init_r4 ++ (wsX1_init_r5 ++ wsX1_init_r6))))) ++ wsX10 ++ wsJx4a65c0 ++ wsJ60)
def wsJx4a65c_size_8abf5 : List Cond := .code yJx4a65c_size_8abf5 cJx4a65c_size_8abf5 1 (some .int) :: ([.fieldLink RJx4a65c 48 "java/util/ArrayList" "size" "I"] ++ wsJx4a65c0)
def wsX1_kinds : List Cond := .code yX1_kinds cX1_kinds 1 (some .int) :: ([.fieldLink RX1 16 "CancelRows$PairList" "codes" "Ljava/util/ArrayList;", .methodLink RX1 30 yJx4a65c_size_8abf5, .instanceMethod yJx4a65c_size_8abf5, .selects RJx4a65c yJx4a65c_size_8abf5 yJx4a65c_size_8abf5, .initialized RJx4a65c, .code yJx4a65c_size_8abf5 cJx4a65c_size_8abf5 1 (some .int), .fieldLink RJx4a65c 48 "java/util/ArrayList" "size" "I"] ++ wsX10 ++ wsJx4a65c0)
def wsJ3_checkIndex_8e157 : List Cond := .code yJ3_checkIndex_8e157 cJ3_checkIndex_8e157 3 (some .int) :: ([])
def wsJ15_checkIndex_7cf53 : List Cond := .code yJ15_checkIndex_7cf53 cJ15_checkIndex_7cf53 2 (some .int) :: ([.methodLink RJ15 105 yJ3_checkIndex_8e157, .static yJ3_checkIndex_8e157, .initialized RJ3, .code yJ3_checkIndex_8e157 cJ3_checkIndex_8e157 3 (some .int)])
def wsJx4a65c_elementData_915e3 : List Cond := .code yJx4a65c_elementData_915e3 cJx4a65c_elementData_915e3 2 (some (.object "java/lang/Object")) :: ([.fieldLink RJx4a65c 9 "java/util/ArrayList" "elementData" "[Ljava/lang/Object;"] ++ wsJx4a65c0)
def wsJx4a65c_get_915e3 : List Cond := .code yJx4a65c_get_915e3 cJx4a65c_get_915e3 2 (some (.object "java/lang/Object")) :: ([.fieldLink RJx4a65c 48 "java/util/ArrayList" "size" "I", .methodLink RJx4a65c 118 yJ15_checkIndex_7cf53, .static yJ15_checkIndex_7cf53, .initialized RJ15, .code yJ15_checkIndex_7cf53 cJ15_checkIndex_7cf53 2 (some .int), .methodLink RJ15 105 yJ3_checkIndex_8e157, .static yJ3_checkIndex_8e157, .initialized RJ3, .code yJ3_checkIndex_8e157 cJ3_checkIndex_8e157 3 (some .int), .methodLink RJx4a65c 123 yJx4a65c_elementData_915e3, .instanceMethod yJx4a65c_elementData_915e3, .selects RJx4a65c yJx4a65c_elementData_915e3 yJx4a65c_elementData_915e3, .initialized RJx4a65c, .code yJx4a65c_elementData_915e3 cJx4a65c_elementData_915e3 2 (some (.object "java/lang/Object")), .fieldLink RJx4a65c 9 "java/util/ArrayList" "elementData" "[Ljava/lang/Object;"] ++ wsJx4a65c0)
def wsJ6_intValue_8abf5 : List Cond := .code yJ6_intValue_8abf5 cJ6_intValue_8abf5 1 (some .int) :: ([.fieldLink RJ6 205 "java/lang/Integer" "value" "I"] ++ wsJ60)
def wsX1_codeAt_r1 : List Cond := [Cond.fieldLink RX1 16 "CancelRows$PairList" "codes" "Ljava/util/ArrayList;", Cond.classLink RX1 38 "java/lang/Integer", Cond.methodLink RX1 30 yJx4a65c_size_8abf5, Cond.instanceMethod yJx4a65c_size_8abf5, Cond.selects RJx4a65c yJx4a65c_size_8abf5 yJx4a65c_size_8abf5, Cond.initialized RJx4a65c, Cond.code yJx4a65c_size_8abf5 cJx4a65c_size_8abf5 1 (some .int), Cond.fieldLink RJx4a65c 48 "java/util/ArrayList" "size" "I", Cond.methodLink RX1 34 yJx4a65c_get_915e3, Cond.instanceMethod yJx4a65c_get_915e3, Cond.selects RJx4a65c yJx4a65c_get_915e3 yJx4a65c_get_915e3, Cond.code yJx4a65c_get_915e3 cJx4a65c_get_915e3 2 (some (.object "java/lang/Object")), Cond.methodLink RJx4a65c 118 yJ15_checkIndex_7cf53, Cond.static yJ15_checkIndex_7cf53, Cond.initialized RJ15, Cond.code yJ15_checkIndex_7cf53 cJ15_checkIndex_7cf53 2 (some .int), Cond.methodLink RJ15 105 yJ3_checkIndex_8e157, Cond.static yJ3_checkIndex_8e157, Cond.initialized RJ3, Cond.code yJ3_checkIndex_8e157 cJ3_checkIndex_8e157 3 (some .int), Cond.methodLink RJx4a65c 123 yJx4a65c_elementData_915e3, Cond.instanceMethod yJx4a65c_elementData_915e3, Cond.selects RJx4a65c yJx4a65c_elementData_915e3 yJx4a65c_elementData_915e3, Cond.code yJx4a65c_elementData_915e3 cJx4a65c_elementData_915e3 2 (some (.object "java/lang/Object"))]
def wsX1_codeAt_r2 : List Cond := [Cond.fieldLink RJx4a65c 9 "java/util/ArrayList" "elementData" "[Ljava/lang/Object;", Cond.methodLink RX1 40 yJ6_intValue_8abf5, Cond.instanceMethod yJ6_intValue_8abf5, Cond.selects RJ6 yJ6_intValue_8abf5 yJ6_intValue_8abf5, Cond.initialized RJ6, Cond.code yJ6_intValue_8abf5 cJ6_intValue_8abf5 1 (some .int), Cond.fieldLink RJ6 205 "java/lang/Integer" "value" "I"]
def wsX1_codeAt : List Cond := .code yX1_codeAt cX1_codeAt 2 (some .int) :: ((wsX1_codeAt_r1 ++ wsX1_codeAt_r2) ++ wsX10 ++ wsJx4a65c0 ++ wsJ60)
def wsX2_init : List Cond := .code yX2_init cX2_init 3 none :: ([.methodLink RX2 1 objectInit, .instanceMethod objectInit, .code objectInit ⟨#[0xb1]⟩ 1 none, .fieldLink RX2 7 "CancelRows$Sheet" "lane" "I", .methodLink RX2 13 Lib.Math.max.name, .static Lib.Math.max.name, .initialized "java/lang/Math", .code Lib.Math.max.name Lib.Math.max.code 2 (some .int), .arrayClass .int, .fieldLink RX2 19 "CancelRows$Sheet" "cells" "[I"] ++ wsX20)
def wsX2_size : List Cond := .code yX2_size cX2_size 1 (some .int) :: ([.fieldLink RX2 19 "CancelRows$Sheet" "cells" "[I"] ++ wsX20)
def wsX2_has : List Cond := .code yX2_has cX2_has 2 (some .boolean) :: ([.fieldLink RX2 19 "CancelRows$Sheet" "cells" "[I"] ++ wsX20)
def wsX2_read : List Cond := .code yX2_read cX2_read 2 (some .int) :: ([.fieldLink RX2 19 "CancelRows$Sheet" "cells" "[I", .methodLink RX2 23 yX2_has, .instanceMethod yX2_has, .selects RX2 yX2_has yX2_has, .initialized RX2, .code yX2_has cX2_has 2 (some .boolean)] ++ wsX20)
def wsX2_cut : List Cond := .code yX2_cut cX2_cut 2 (some .int) :: ([.fieldLink RX2 7 "CancelRows$Sheet" "lane" "I"] ++ wsX20)
def wsX2_write : List Cond := .code yX2_write cX2_write 3 none :: ([.fieldLink RX2 19 "CancelRows$Sheet" "cells" "[I", .methodLink RX2 23 yX2_has, .instanceMethod yX2_has, .selects RX2 yX2_has yX2_has, .initialized RX2, .code yX2_has cX2_has 2 (some .boolean), .methodLink RX2 27 yX2_cut, .instanceMethod yX2_cut, .selects RX2 yX2_cut yX2_cut, .code yX2_cut cX2_cut 2 (some .int), .fieldLink RX2 7 "CancelRows$Sheet" "lane" "I"] ++ wsX20)
def wsX3_sign : List Cond := .code yX3_sign cX3_sign 3 (some .int) :: ([])
def wsX3_roundSum : List Cond := .code yX3_roundSum cX3_roundSum 6 (some .int) :: ([.methodLink RX3 7 yX3_mask, .static yX3_mask, .initialized RX3, .code yX3_mask cX3_mask 1 (some .long), .methodLink RX3 13 yJ13_bitCount_95d88, .static yJ13_bitCount_95d88, .initialized RJ13, .code yJ13_bitCount_95d88 cJ13_bitCount_95d88 2 (some .int), .constantLong RJ13 314 (6148914691236517205), .constantLong RJ13 316 (3689348814741910323), .constantLong RJ13 318 (1085102592571150095)])
def wsX3_total : List Cond := .code yX3_total cX3_total 3 (some .int) :: ([.methodLink RX3 13 yJ13_bitCount_95d88, .static yJ13_bitCount_95d88, .initialized RJ13, .code yJ13_bitCount_95d88 cJ13_bitCount_95d88 2 (some .int), .constantLong RJ13 314 (6148914691236517205), .constantLong RJ13 316 (3689348814741910323), .constantLong RJ13 318 (1085102592571150095)])
def wsX3_changes : List Cond := .code yX3_changes cX3_changes 3 (some .int) :: ([.methodLink RX3 7 yX3_mask, .static yX3_mask, .initialized RX3, .code yX3_mask cX3_mask 1 (some .long), .methodLink RX3 13 yJ13_bitCount_95d88, .static yJ13_bitCount_95d88, .initialized RJ13, .code yJ13_bitCount_95d88 cJ13_bitCount_95d88 2 (some .int), .constantLong RJ13 314 (6148914691236517205), .constantLong RJ13 316 (3689348814741910323), .constantLong RJ13 318 (1085102592571150095)])
def wsX3_isNewTurned : List Cond := .code yX3_isNewTurned cX3_isNewTurned 7 (some .boolean) :: ([.methodLink RX3 42 yX3_turned, .static yX3_turned, .initialized RX3, .code yX3_turned cX3_turned 6 (some .long), .constantLong RX3 40 (2863311530), .methodLink RX3 33 yX3_reversed, .static yX3_reversed, .code yX3_reversed cX3_reversed 6 (some .long), .methodLink RX3 37 yX3_opposite, .static yX3_opposite, .code yX3_opposite cX3_opposite 3 (some .long), .methodLink RX3 7 yX3_mask, .static yX3_mask, .code yX3_mask cX3_mask 1 (some .long)])
def wsX3_unlikeTurned : List Cond := .code yX3_unlikeTurned cX3_unlikeTurned 5 (some .int) :: ([.methodLink RX3 50 yX3_isNewTurned, .static yX3_isNewTurned, .initialized RX3, .code yX3_isNewTurned cX3_isNewTurned 7 (some .boolean), .methodLink RX3 42 yX3_turned, .static yX3_turned, .code yX3_turned cX3_turned 6 (some .long), .constantLong RX3 40 (2863311530), .methodLink RX3 33 yX3_reversed, .static yX3_reversed, .code yX3_reversed cX3_reversed 6 (some .long), .methodLink RX3 37 yX3_opposite, .static yX3_opposite, .code yX3_opposite cX3_opposite 3 (some .long), .methodLink RX3 7 yX3_mask, .static yX3_mask, .code yX3_mask cX3_mask 1 (some .long)])
def wsX3_joined : List Cond := .code yX3_joined cX3_joined 5 (some .long) :: ([])
def wsX3_woven : List Cond := .code yX3_woven cX3_woven 8 (some .long) :: ([])
def wsX3_product : List Cond := .code yX3_product cX3_product 11 (some .long) :: ([.methodLink RX3 54 yX3_sign, .static yX3_sign, .initialized RX3, .code yX3_sign cX3_sign 3 (some .int), .methodLink RX3 37 yX3_opposite, .static yX3_opposite, .code yX3_opposite cX3_opposite 3 (some .long), .methodLink RX3 7 yX3_mask, .static yX3_mask, .code yX3_mask cX3_mask 1 (some .long)])
def wsX4_rootOf : List Cond := .code yX4_rootOf cX4_rootOf 3 (some .int) :: ([])
def wsX4_ways : List Cond := .code yX4_ways cX4_ways 5 (some .int) :: ([.methodLink RX4 13 Lib.Math.min.name, .static Lib.Math.min.name, .initialized "java/lang/Math", .code Lib.Math.min.name Lib.Math.min.code 2 (some .int), .methodLink RX4 7 yX4_rootOf, .static yX4_rootOf, .initialized RX4, .code yX4_rootOf cX4_rootOf 3 (some .int), .methodLink RX4 19 yX4_ways, .static yX4_ways])
def wsX4_hasPrimeOfRestThree : List Cond := .code yX4_hasPrimeOfRestThree cX4_hasPrimeOfRestThree 2 (some .boolean) :: ([])
def wsJ6_bitCount_0f7a4 : List Cond := .code yJ6_bitCount_0f7a4 cJ6_bitCount_0f7a4 1 (some .int) :: ([.constant RJ6 265 (1431655765), .constant RJ6 266 (858993459), .constant RJ6 267 (252645135)])
def wsX5_seedOf : List Cond := .code yX5_seedOf cX5_seedOf 1 (some .int) :: ([.methodLink RX5 7 yJ6_bitCount_0f7a4, .static yJ6_bitCount_0f7a4, .initialized RJ6, .code yJ6_bitCount_0f7a4 cJ6_bitCount_0f7a4 1 (some .int), .constant RJ6 265 (1431655765), .constant RJ6 266 (858993459), .constant RJ6 267 (252645135)])
def wsX5_firstOfSeed : List Cond := .code yX5_firstOfSeed cX5_firstOfSeed 1 (some .long) :: ([.constantLong RX5 15 (6477200), .constantLong RX5 17 (212)])
def wsX5_secondOfSeed : List Cond := .code yX5_secondOfSeed cX5_secondOfSeed 1 (some .long) :: ([.constantLong RX5 19 (60622224), .constantLong RX5 21 (772)])
def wsX6_init : List Cond := .code yX6_init cX6_init 1 none :: ([.methodLink RX6 1 objectInit, .instanceMethod objectInit, .code objectInit ⟨#[0xb1]⟩ 1 none, .arrayClass .int, .fieldLink RX6 9 "CancelRows" "lengths" "[I", .arrayClass .long, .fieldLink RX6 13 "CancelRows" "numbers" "[J", .classLink RX6 17 RX2, .fieldLink RX6 19 "CancelRows" "sheets" "[LCancelRows$Sheet;", .classLink RX6 23 RX1, .fieldLink RX6 25 "CancelRows" "pairLists" "[LCancelRows$PairList;", .classLink RX6 29 RX0, .fieldLink RX6 31 "CancelRows" "bestByPeak" "[LCancelRows$BestRows;", .fieldLink RX6 35 "CancelRows" "bestByEnergy" "[LCancelRows$BestRows;", .fieldLink RX6 38 "CancelRows" "rows" "I"] ++ wsX60)
def wsX6_within : List Cond := .code yX6_within cX6_within 3 (some .boolean) :: ([])
def wsX6_fits : List Cond := .code yX6_fits cX6_fits 3 (some .boolean) :: ([.fieldLink RX6 38 "CancelRows" "rows" "I"] ++ wsX60)
def wsX6_added : List Cond := .code yX6_added cX6_added 5 (some .int) :: ([.fieldLink RX6 38 "CancelRows" "rows" "I", .fieldLink RX6 9 "CancelRows" "lengths" "[I", .fieldLink RX6 13 "CancelRows" "numbers" "[J"] ++ wsX60)
def wsX6_row : List Cond := .code yX6_row cX6_row 4 (some .int) :: ([.methodLink RX6 42 yX6_within, .static yX6_within, .initialized RX6, .code yX6_within cX6_within 3 (some .boolean), .methodLink RX6 46 yX3_mask, .static yX3_mask, .initialized RX3, .code yX3_mask cX3_mask 1 (some .long), .methodLink RX6 52 yX6_fits, .instanceMethod yX6_fits, .selects RX6 yX6_fits yX6_fits, .code yX6_fits cX6_fits 3 (some .boolean), .fieldLink RX6 38 "CancelRows" "rows" "I", .methodLink RX6 56 yX6_added, .instanceMethod yX6_added, .selects RX6 yX6_added yX6_added, .code yX6_added cX6_added 5 (some .int), .fieldLink RX6 9 "CancelRows" "lengths" "[I", .fieldLink RX6 13 "CancelRows" "numbers" "[J"] ++ wsX60)
def wsX6_isSheet : List Cond := .code yX6_isSheet cX6_isSheet 1 (some .boolean) :: ([.methodLink RX6 42 yX6_within, .static yX6_within, .initialized RX6, .code yX6_within cX6_within 3 (some .boolean)])
def wsX6_isLane : List Cond := .code yX6_isLane cX6_isLane 1 (some .boolean) :: ([.methodLink RX6 42 yX6_within, .static yX6_within, .initialized RX6, .code yX6_within cX6_within 3 (some .boolean)])
def wsX6_sheet_r1 : List Cond := [Cond.fieldLink RX6 19 "CancelRows" "sheets" "[LCancelRows$Sheet;", Cond.classLink RX6 17 RX2, Cond.instantiable RX2 2, Cond.initialized RX2, Cond.methodLink RX6 60 yX6_isSheet, Cond.static yX6_isSheet, Cond.initialized RX6, Cond.code yX6_isSheet cX6_isSheet 1 (some .boolean), Cond.methodLink RX6 42 yX6_within, Cond.static yX6_within, Cond.code yX6_within cX6_within 3 (some .boolean), Cond.methodLink RX6 64 yX6_isLane, Cond.static yX6_isLane, Cond.code yX6_isLane cX6_isLane 1 (some .boolean), Cond.methodLink RX6 67 yX2_init, Cond.instanceMethod yX2_init, Cond.code yX2_init cX2_init 3 none, Cond.methodLink RX2 1 objectInit, Cond.instanceMethod objectInit, Cond.code objectInit ⟨#[0xb1]⟩ 1 none, Cond.fieldLink RX2 7 "CancelRows$Sheet" "lane" "I", Cond.methodLink RX2 13 Lib.Math.max.name, Cond.static Lib.Math.max.name, Cond.initialized "java/lang/Math"]
def wsX6_sheet_r2 : List Cond := [Cond.code Lib.Math.max.name Lib.Math.max.code 2 (some .int), Cond.arrayClass .int, Cond.fieldLink RX2 19 "CancelRows$Sheet" "cells" "[I"]
def wsX6_sheet : List Cond := .code yX6_sheet cX6_sheet 4 (some .int) :: ((wsX6_sheet_r1 ++ wsX6_sheet_r2) ++ wsX60 ++ wsX20)
def wsX6_lay : List Cond := .code yX6_lay cX6_lay 5 (some .int) :: ([.fieldLink RX6 19 "CancelRows" "sheets" "[LCancelRows$Sheet;", .methodLink RX6 60 yX6_isSheet, .static yX6_isSheet, .initialized RX6, .code yX6_isSheet cX6_isSheet 1 (some .boolean), .methodLink RX6 42 yX6_within, .static yX6_within, .code yX6_within cX6_within 3 (some .boolean), .methodLink RX6 70 yX2_has, .instanceMethod yX2_has, .selects RX2 yX2_has yX2_has, .initialized RX2, .code yX2_has cX2_has 2 (some .boolean), .fieldLink RX2 19 "CancelRows$Sheet" "cells" "[I", .methodLink RX6 73 yX2_write, .instanceMethod yX2_write, .selects RX2 yX2_write yX2_write, .code yX2_write cX2_write 3 none, .methodLink RX2 23 yX2_has, .methodLink RX2 27 yX2_cut, .instanceMethod yX2_cut, .selects RX2 yX2_cut yX2_cut, .code yX2_cut cX2_cut 2 (some .int), .fieldLink RX2 7 "CancelRows$Sheet" "lane" "I"] ++ wsX60 ++ wsX20)
def wsX6_draw_r1 : List Cond := [Cond.fieldLink RX6 19 "CancelRows" "sheets" "[LCancelRows$Sheet;", Cond.fieldLink RX6 76 "CancelRows$Sheet" "lane" "I", Cond.methodLink RX6 60 yX6_isSheet, Cond.static yX6_isSheet, Cond.initialized RX6, Cond.code yX6_isSheet cX6_isSheet 1 (some .boolean), Cond.methodLink RX6 42 yX6_within, Cond.static yX6_within, Cond.code yX6_within cX6_within 3 (some .boolean), Cond.methodLink RX6 64 yX6_isLane, Cond.static yX6_isLane, Cond.code yX6_isLane cX6_isLane 1 (some .boolean), Cond.methodLink RX6 70 yX2_has, Cond.instanceMethod yX2_has, Cond.selects RX2 yX2_has yX2_has, Cond.initialized RX2, Cond.code yX2_has cX2_has 2 (some .boolean), Cond.fieldLink RX2 19 "CancelRows$Sheet" "cells" "[I", Cond.methodLink RX6 79 yX2_read, Cond.instanceMethod yX2_read, Cond.selects RX2 yX2_read yX2_read, Cond.code yX2_read cX2_read 2 (some .int), Cond.methodLink RX2 23 yX2_has, Cond.methodLink RX6 52 yX6_fits]
def wsX6_draw_r2 : List Cond := [Cond.instanceMethod yX6_fits, Cond.selects RX6 yX6_fits yX6_fits, Cond.code yX6_fits cX6_fits 3 (some .boolean), Cond.fieldLink RX6 38 "CancelRows" "rows" "I", Cond.methodLink RX6 56 yX6_added, Cond.instanceMethod yX6_added, Cond.selects RX6 yX6_added yX6_added, Cond.code yX6_added cX6_added 5 (some .int), Cond.fieldLink RX6 9 "CancelRows" "lengths" "[I", Cond.fieldLink RX6 13 "CancelRows" "numbers" "[J"]
def wsX6_draw : List Cond := .code yX6_draw cX6_draw 10 (some .int) :: ((wsX6_draw_r1 ++ wsX6_draw_r2) ++ wsX60 ++ wsX20)
def wsX6_drop : List Cond := .code yX6_drop cX6_drop 1 (some .int) :: ([.fieldLink RX6 38 "CancelRows" "rows" "I"] ++ wsX60)
def wsX6_isRow : List Cond := .code yX6_isRow cX6_isRow 2 (some .boolean) :: ([.fieldLink RX6 38 "CancelRows" "rows" "I", .methodLink RX6 42 yX6_within, .static yX6_within, .initialized RX6, .code yX6_within cX6_within 3 (some .boolean)] ++ wsX60)
def wsX6_length : List Cond := .code yX6_length cX6_length 2 (some .int) :: ([.fieldLink RX6 9 "CancelRows" "lengths" "[I", .methodLink RX6 83 yX6_isRow, .instanceMethod yX6_isRow, .selects RX6 yX6_isRow yX6_isRow, .initialized RX6, .code yX6_isRow cX6_isRow 2 (some .boolean), .fieldLink RX6 38 "CancelRows" "rows" "I", .methodLink RX6 42 yX6_within, .static yX6_within, .code yX6_within cX6_within 3 (some .boolean)] ++ wsX60)
def wsX6_place : List Cond := .code yX6_place cX6_place 3 (some .int) :: ([.fieldLink RX6 9 "CancelRows" "lengths" "[I", .fieldLink RX6 13 "CancelRows" "numbers" "[J", .methodLink RX6 83 yX6_isRow, .instanceMethod yX6_isRow, .selects RX6 yX6_isRow yX6_isRow, .initialized RX6, .code yX6_isRow cX6_isRow 2 (some .boolean), .fieldLink RX6 38 "CancelRows" "rows" "I", .methodLink RX6 42 yX6_within, .static yX6_within, .code yX6_within cX6_within 3 (some .boolean), .methodLink RX6 86 yX3_sign, .static yX3_sign, .initialized RX3, .code yX3_sign cX3_sign 3 (some .int)] ++ wsX60)
def wsX6_number : List Cond := .code yX6_number cX6_number 2 (some .long) :: ([.fieldLink RX6 13 "CancelRows" "numbers" "[J", .constantLong RX6 90 (-1), .methodLink RX6 83 yX6_isRow, .instanceMethod yX6_isRow, .selects RX6 yX6_isRow yX6_isRow, .initialized RX6, .code yX6_isRow cX6_isRow 2 (some .boolean), .fieldLink RX6 38 "CancelRows" "rows" "I", .methodLink RX6 42 yX6_within, .static yX6_within, .code yX6_within cX6_within 3 (some .boolean)] ++ wsX60)
def wsX6_open_r1 : List Cond := [Cond.fieldLink RX6 9 "CancelRows" "lengths" "[I", Cond.fieldLink RX6 13 "CancelRows" "numbers" "[J", Cond.methodLink RX6 83 yX6_isRow, Cond.instanceMethod yX6_isRow, Cond.selects RX6 yX6_isRow yX6_isRow, Cond.initialized RX6, Cond.code yX6_isRow cX6_isRow 2 (some .boolean), Cond.fieldLink RX6 38 "CancelRows" "rows" "I", Cond.methodLink RX6 42 yX6_within, Cond.static yX6_within, Cond.code yX6_within cX6_within 3 (some .boolean), Cond.methodLink RX6 92 yX3_openSum, Cond.static yX3_openSum, Cond.initialized RX3, Cond.code yX3_openSum cX3_openSum 5 (some .int), Cond.methodLink RX3 7 yX3_mask, Cond.static yX3_mask, Cond.code yX3_mask cX3_mask 1 (some .long), Cond.methodLink RX3 13 yJ13_bitCount_95d88, Cond.static yJ13_bitCount_95d88, Cond.initialized RJ13, Cond.code yJ13_bitCount_95d88 cJ13_bitCount_95d88 2 (some .int), Cond.constantLong RJ13 314 (6148914691236517205), Cond.constantLong RJ13 316 (3689348814741910323)]
def wsX6_open_r2 : List Cond := [Cond.constantLong RJ13 318 (1085102592571150095)]
def wsX6_open : List Cond := .code yX6_open cX6_open 3 (some .int) :: ((wsX6_open_r1 ++ wsX6_open_r2) ++ wsX60)
def wsX6_round_r1 : List Cond := [Cond.fieldLink RX6 9 "CancelRows" "lengths" "[I", Cond.fieldLink RX6 13 "CancelRows" "numbers" "[J", Cond.methodLink RX6 83 yX6_isRow, Cond.instanceMethod yX6_isRow, Cond.selects RX6 yX6_isRow yX6_isRow, Cond.initialized RX6, Cond.code yX6_isRow cX6_isRow 2 (some .boolean), Cond.fieldLink RX6 38 "CancelRows" "rows" "I", Cond.methodLink RX6 42 yX6_within, Cond.static yX6_within, Cond.code yX6_within cX6_within 3 (some .boolean), Cond.methodLink RX6 96 yX3_roundSum, Cond.static yX3_roundSum, Cond.initialized RX3, Cond.code yX3_roundSum cX3_roundSum 6 (some .int), Cond.methodLink RX3 7 yX3_mask, Cond.static yX3_mask, Cond.code yX3_mask cX3_mask 1 (some .long), Cond.methodLink RX3 13 yJ13_bitCount_95d88, Cond.static yJ13_bitCount_95d88, Cond.initialized RJ13, Cond.code yJ13_bitCount_95d88 cJ13_bitCount_95d88 2 (some .int), Cond.constantLong RJ13 314 (6148914691236517205), Cond.constantLong RJ13 316 (3689348814741910323)]
def wsX6_round_r2 : List Cond := [Cond.constantLong RJ13 318 (1085102592571150095)]
def wsX6_round : List Cond := .code yX6_round cX6_round 3 (some .int) :: ((wsX6_round_r1 ++ wsX6_round_r2) ++ wsX60)
def wsX6_about_r1 : List Cond := [Cond.fieldLink RX6 13 "CancelRows" "numbers" "[J", Cond.fieldLink RX6 9 "CancelRows" "lengths" "[I", Cond.methodLink RX6 83 yX6_isRow, Cond.instanceMethod yX6_isRow, Cond.selects RX6 yX6_isRow yX6_isRow, Cond.initialized RX6, Cond.code yX6_isRow cX6_isRow 2 (some .boolean), Cond.fieldLink RX6 38 "CancelRows" "rows" "I", Cond.methodLink RX6 42 yX6_within, Cond.static yX6_within, Cond.code yX6_within cX6_within 3 (some .boolean), Cond.methodLink RX6 99 yX3_peak, Cond.static yX3_peak, Cond.initialized RX3, Cond.code yX3_peak cX3_peak 5 (some .int), Cond.methodLink RX3 23 Lib.Math.abs.name, Cond.static Lib.Math.abs.name, Cond.initialized "java/lang/Math", Cond.code Lib.Math.abs.name Lib.Math.abs.code 1 (some .int), Cond.methodLink RX3 29 Lib.Math.max.name, Cond.static Lib.Math.max.name, Cond.code Lib.Math.max.name Lib.Math.max.code 2 (some .int), Cond.methodLink RX3 19 yX3_openSum, Cond.static yX3_openSum]
def wsX6_about_r2 : List Cond := [Cond.code yX3_openSum cX3_openSum 5 (some .int), Cond.methodLink RX3 7 yX3_mask, Cond.static yX3_mask, Cond.code yX3_mask cX3_mask 1 (some .long), Cond.methodLink RX3 13 yJ13_bitCount_95d88, Cond.static yJ13_bitCount_95d88, Cond.initialized RJ13, Cond.code yJ13_bitCount_95d88 cJ13_bitCount_95d88 2 (some .int), Cond.constantLong RJ13 314 (6148914691236517205), Cond.constantLong RJ13 316 (3689348814741910323), Cond.constantLong RJ13 318 (1085102592571150095), Cond.methodLink RX6 102 yX3_energy, Cond.static yX3_energy, Cond.code yX3_energy cX3_energy 6 (some .int), Cond.methodLink RX6 105 yX3_total, Cond.static yX3_total, Cond.code yX3_total cX3_total 3 (some .int), Cond.methodLink RX6 108 yX3_changes, Cond.static yX3_changes, Cond.code yX3_changes cX3_changes 3 (some .int), Cond.methodLink RX6 111 yX3_unlikeTurned, Cond.static yX3_unlikeTurned, Cond.code yX3_unlikeTurned cX3_unlikeTurned 5 (some .int), Cond.methodLink RX3 50 yX3_isNewTurned]
def wsX6_about_r3 : List Cond := [Cond.static yX3_isNewTurned, Cond.code yX3_isNewTurned cX3_isNewTurned 7 (some .boolean), Cond.methodLink RX3 42 yX3_turned, Cond.static yX3_turned, Cond.code yX3_turned cX3_turned 6 (some .long), Cond.constantLong RX3 40 (2863311530), Cond.methodLink RX3 33 yX3_reversed, Cond.static yX3_reversed, Cond.code yX3_reversed cX3_reversed 6 (some .long), Cond.methodLink RX3 37 yX3_opposite, Cond.static yX3_opposite, Cond.code yX3_opposite cX3_opposite 3 (some .long)]
def wsX6_about : List Cond := .code yX6_about cX6_about 3 (some .int) :: ((wsX6_about_r1 ++ (wsX6_about_r2 ++ wsX6_about_r3)) ++ wsX60)
def wsX6_least_r1 : List Cond := [Cond.fieldLink RX6 13 "CancelRows" "numbers" "[J", Cond.fieldLink RX6 9 "CancelRows" "lengths" "[I", Cond.constantLong RX6 90 (-1), Cond.methodLink RX6 83 yX6_isRow, Cond.instanceMethod yX6_isRow, Cond.selects RX6 yX6_isRow yX6_isRow, Cond.initialized RX6, Cond.code yX6_isRow cX6_isRow 2 (some .boolean), Cond.fieldLink RX6 38 "CancelRows" "rows" "I", Cond.methodLink RX6 42 yX6_within, Cond.static yX6_within, Cond.code yX6_within cX6_within 3 (some .boolean), Cond.methodLink RX6 114 yX3_leastTurned, Cond.static yX3_leastTurned, Cond.initialized RX3, Cond.code yX3_leastTurned cX3_leastTurned 6 (some .long), Cond.methodLink RX3 46 Lib.MathLoose.min_long.x, Cond.static Lib.MathLoose.min_long.x, Cond.initialized "java/lang/Math", Cond.code Lib.MathLoose.min_long.x Lib.MathLoose.min_long.code 4 (some .long), Cond.methodLink RX3 42 yX3_turned, Cond.static yX3_turned, Cond.code yX3_turned cX3_turned 6 (some .long), Cond.constantLong RX3 40 (2863311530)]
def wsX6_least_r2 : List Cond := [Cond.methodLink RX3 33 yX3_reversed, Cond.static yX3_reversed, Cond.code yX3_reversed cX3_reversed 6 (some .long), Cond.methodLink RX3 37 yX3_opposite, Cond.static yX3_opposite, Cond.code yX3_opposite cX3_opposite 3 (some .long), Cond.methodLink RX3 7 yX3_mask, Cond.static yX3_mask, Cond.code yX3_mask cX3_mask 1 (some .long)]
def wsX6_least : List Cond := .code yX6_least cX6_least 2 (some .long) :: ((wsX6_least_r1 ++ wsX6_least_r2) ++ wsX60)
def wsX6_turn_r1 : List Cond := [Cond.fieldLink RX6 9 "CancelRows" "lengths" "[I", Cond.fieldLink RX6 13 "CancelRows" "numbers" "[J", Cond.methodLink RX6 83 yX6_isRow, Cond.instanceMethod yX6_isRow, Cond.selects RX6 yX6_isRow yX6_isRow, Cond.initialized RX6, Cond.code yX6_isRow cX6_isRow 2 (some .boolean), Cond.fieldLink RX6 38 "CancelRows" "rows" "I", Cond.methodLink RX6 42 yX6_within, Cond.static yX6_within, Cond.code yX6_within cX6_within 3 (some .boolean), Cond.methodLink RX6 52 yX6_fits, Cond.instanceMethod yX6_fits, Cond.selects RX6 yX6_fits yX6_fits, Cond.code yX6_fits cX6_fits 3 (some .boolean), Cond.methodLink RX6 118 yX3_turned, Cond.static yX3_turned, Cond.initialized RX3, Cond.code yX3_turned cX3_turned 6 (some .long), Cond.constantLong RX3 40 (2863311530), Cond.methodLink RX3 33 yX3_reversed, Cond.static yX3_reversed, Cond.code yX3_reversed cX3_reversed 6 (some .long), Cond.methodLink RX3 37 yX3_opposite]
def wsX6_turn_r2 : List Cond := [Cond.static yX3_opposite, Cond.code yX3_opposite cX3_opposite 3 (some .long), Cond.methodLink RX3 7 yX3_mask, Cond.static yX3_mask, Cond.code yX3_mask cX3_mask 1 (some .long), Cond.methodLink RX6 56 yX6_added, Cond.instanceMethod yX6_added, Cond.selects RX6 yX6_added yX6_added, Cond.code yX6_added cX6_added 5 (some .int)]
def wsX6_turn : List Cond := .code yX6_turn cX6_turn 4 (some .int) :: ((wsX6_turn_r1 ++ wsX6_turn_r2) ++ wsX60)
def wsX6_put : List Cond := .code yX6_put cX6_put 4 (some .int) :: ([.fieldLink RX6 9 "CancelRows" "lengths" "[I", .fieldLink RX6 13 "CancelRows" "numbers" "[J", .methodLink RX6 83 yX6_isRow, .instanceMethod yX6_isRow, .selects RX6 yX6_isRow yX6_isRow, .initialized RX6, .code yX6_isRow cX6_isRow 2 (some .boolean), .fieldLink RX6 38 "CancelRows" "rows" "I", .methodLink RX6 42 yX6_within, .static yX6_within, .code yX6_within cX6_within 3 (some .boolean), .methodLink RX6 52 yX6_fits, .instanceMethod yX6_fits, .selects RX6 yX6_fits yX6_fits, .code yX6_fits cX6_fits 3 (some .boolean), .methodLink RX6 122 yX3_joined, .static yX3_joined, .initialized RX3, .code yX3_joined cX3_joined 5 (some .long), .methodLink RX6 56 yX6_added, .instanceMethod yX6_added, .selects RX6 yX6_added yX6_added, .code yX6_added cX6_added 5 (some .int)] ++ wsX60)
def wsX6_areAlikeLong : List Cond := .code yX6_areAlikeLong cX6_areAlikeLong 3 (some .boolean) :: ([.fieldLink RX6 9 "CancelRows" "lengths" "[I", .methodLink RX6 83 yX6_isRow, .instanceMethod yX6_isRow, .selects RX6 yX6_isRow yX6_isRow, .initialized RX6, .code yX6_isRow cX6_isRow 2 (some .boolean), .fieldLink RX6 38 "CancelRows" "rows" "I", .methodLink RX6 42 yX6_within, .static yX6_within, .code yX6_within cX6_within 3 (some .boolean)] ++ wsX60)
def wsX6_weave_r1 : List Cond := [Cond.fieldLink RX6 9 "CancelRows" "lengths" "[I", Cond.fieldLink RX6 13 "CancelRows" "numbers" "[J", Cond.methodLink RX6 126 yX6_areAlikeLong, Cond.instanceMethod yX6_areAlikeLong, Cond.selects RX6 yX6_areAlikeLong yX6_areAlikeLong, Cond.initialized RX6, Cond.code yX6_areAlikeLong cX6_areAlikeLong 3 (some .boolean), Cond.methodLink RX6 83 yX6_isRow, Cond.instanceMethod yX6_isRow, Cond.selects RX6 yX6_isRow yX6_isRow, Cond.code yX6_isRow cX6_isRow 2 (some .boolean), Cond.fieldLink RX6 38 "CancelRows" "rows" "I", Cond.methodLink RX6 42 yX6_within, Cond.static yX6_within, Cond.code yX6_within cX6_within 3 (some .boolean), Cond.methodLink RX6 52 yX6_fits, Cond.instanceMethod yX6_fits, Cond.selects RX6 yX6_fits yX6_fits, Cond.code yX6_fits cX6_fits 3 (some .boolean), Cond.methodLink RX6 129 yX3_woven, Cond.static yX3_woven, Cond.initialized RX3, Cond.code yX3_woven cX3_woven 8 (some .long), Cond.methodLink RX6 56 yX6_added]
def wsX6_weave_r2 : List Cond := [Cond.instanceMethod yX6_added, Cond.selects RX6 yX6_added yX6_added, Cond.code yX6_added cX6_added 5 (some .int)]
def wsX6_weave : List Cond := .code yX6_weave cX6_weave 4 (some .int) :: ((wsX6_weave_r1 ++ wsX6_weave_r2) ++ wsX60)
def wsX6_times_r1 : List Cond := [Cond.fieldLink RX6 9 "CancelRows" "lengths" "[I", Cond.fieldLink RX6 13 "CancelRows" "numbers" "[J", Cond.methodLink RX6 83 yX6_isRow, Cond.instanceMethod yX6_isRow, Cond.selects RX6 yX6_isRow yX6_isRow, Cond.initialized RX6, Cond.code yX6_isRow cX6_isRow 2 (some .boolean), Cond.fieldLink RX6 38 "CancelRows" "rows" "I", Cond.methodLink RX6 42 yX6_within, Cond.static yX6_within, Cond.code yX6_within cX6_within 3 (some .boolean), Cond.methodLink RX6 52 yX6_fits, Cond.instanceMethod yX6_fits, Cond.selects RX6 yX6_fits yX6_fits, Cond.code yX6_fits cX6_fits 3 (some .boolean), Cond.methodLink RX6 133 yX3_product, Cond.static yX3_product, Cond.initialized RX3, Cond.code yX3_product cX3_product 11 (some .long), Cond.methodLink RX3 54 yX3_sign, Cond.static yX3_sign, Cond.code yX3_sign cX3_sign 3 (some .int), Cond.methodLink RX3 37 yX3_opposite, Cond.static yX3_opposite]
def wsX6_times_r2 : List Cond := [Cond.code yX3_opposite cX3_opposite 3 (some .long), Cond.methodLink RX3 7 yX3_mask, Cond.static yX3_mask, Cond.code yX3_mask cX3_mask 1 (some .long), Cond.methodLink RX6 56 yX6_added, Cond.instanceMethod yX6_added, Cond.selects RX6 yX6_added yX6_added, Cond.code yX6_added cX6_added 5 (some .int)]
def wsX6_times : List Cond := .code yX6_times cX6_times 4 (some .int) :: ((wsX6_times_r1 ++ wsX6_times_r2) ++ wsX60)
def wsX6_cancels_r1 : List Cond := [Cond.fieldLink RX6 13 "CancelRows" "numbers" "[J", Cond.fieldLink RX6 9 "CancelRows" "lengths" "[I", Cond.methodLink RX6 126 yX6_areAlikeLong, Cond.instanceMethod yX6_areAlikeLong, Cond.selects RX6 yX6_areAlikeLong yX6_areAlikeLong, Cond.initialized RX6, Cond.code yX6_areAlikeLong cX6_areAlikeLong 3 (some .boolean), Cond.methodLink RX6 83 yX6_isRow, Cond.instanceMethod yX6_isRow, Cond.selects RX6 yX6_isRow yX6_isRow, Cond.code yX6_isRow cX6_isRow 2 (some .boolean), Cond.fieldLink RX6 38 "CancelRows" "rows" "I", Cond.methodLink RX6 42 yX6_within, Cond.static yX6_within, Cond.code yX6_within cX6_within 3 (some .boolean), Cond.methodLink RX6 137 yX3_firstLeftOpen, Cond.static yX3_firstLeftOpen, Cond.initialized RX3, Cond.code yX3_firstLeftOpen cX3_firstLeftOpen 6 (some .int), Cond.methodLink RX3 19 yX3_openSum, Cond.static yX3_openSum, Cond.code yX3_openSum cX3_openSum 5 (some .int), Cond.methodLink RX3 7 yX3_mask, Cond.static yX3_mask]
def wsX6_cancels_r2 : List Cond := [Cond.code yX3_mask cX3_mask 1 (some .long), Cond.methodLink RX3 13 yJ13_bitCount_95d88, Cond.static yJ13_bitCount_95d88, Cond.initialized RJ13, Cond.code yJ13_bitCount_95d88 cJ13_bitCount_95d88 2 (some .int), Cond.constantLong RJ13 314 (6148914691236517205), Cond.constantLong RJ13 316 (3689348814741910323), Cond.constantLong RJ13 318 (1085102592571150095)]
def wsX6_cancels : List Cond := .code yX6_cancels cX6_cancels 3 (some .int) :: ((wsX6_cancels_r1 ++ wsX6_cancels_r2) ++ wsX60)
def wsX6_four_r1 : List Cond := [Cond.fieldLink RX6 9 "CancelRows" "lengths" "[I", Cond.fieldLink RX6 13 "CancelRows" "numbers" "[J", Cond.methodLink RX6 126 yX6_areAlikeLong, Cond.instanceMethod yX6_areAlikeLong, Cond.selects RX6 yX6_areAlikeLong yX6_areAlikeLong, Cond.initialized RX6, Cond.code yX6_areAlikeLong cX6_areAlikeLong 3 (some .boolean), Cond.methodLink RX6 83 yX6_isRow, Cond.instanceMethod yX6_isRow, Cond.selects RX6 yX6_isRow yX6_isRow, Cond.code yX6_isRow cX6_isRow 2 (some .boolean), Cond.fieldLink RX6 38 "CancelRows" "rows" "I", Cond.methodLink RX6 42 yX6_within, Cond.static yX6_within, Cond.code yX6_within cX6_within 3 (some .boolean), Cond.methodLink RX6 96 yX3_roundSum, Cond.static yX3_roundSum, Cond.initialized RX3, Cond.code yX3_roundSum cX3_roundSum 6 (some .int), Cond.methodLink RX3 7 yX3_mask, Cond.static yX3_mask, Cond.code yX3_mask cX3_mask 1 (some .long), Cond.methodLink RX3 13 yJ13_bitCount_95d88, Cond.static yJ13_bitCount_95d88]
def wsX6_four_r2 : List Cond := [Cond.initialized RJ13, Cond.code yJ13_bitCount_95d88 cJ13_bitCount_95d88 2 (some .int), Cond.constantLong RJ13 314 (6148914691236517205), Cond.constantLong RJ13 316 (3689348814741910323), Cond.constantLong RJ13 318 (1085102592571150095)]
def wsX6_four : List Cond := .code yX6_four cX6_four 9 (some .int) :: ((wsX6_four_r1 ++ wsX6_four_r2) ++ wsX60)
def wsX6_doubled_r1 : List Cond := [Cond.fieldLink RX6 9 "CancelRows" "lengths" "[I", Cond.fieldLink RX6 13 "CancelRows" "numbers" "[J", Cond.methodLink RX6 126 yX6_areAlikeLong, Cond.instanceMethod yX6_areAlikeLong, Cond.selects RX6 yX6_areAlikeLong yX6_areAlikeLong, Cond.initialized RX6, Cond.code yX6_areAlikeLong cX6_areAlikeLong 3 (some .boolean), Cond.methodLink RX6 83 yX6_isRow, Cond.instanceMethod yX6_isRow, Cond.selects RX6 yX6_isRow yX6_isRow, Cond.code yX6_isRow cX6_isRow 2 (some .boolean), Cond.fieldLink RX6 38 "CancelRows" "rows" "I", Cond.methodLink RX6 42 yX6_within, Cond.static yX6_within, Cond.code yX6_within cX6_within 3 (some .boolean), Cond.methodLink RX6 52 yX6_fits, Cond.instanceMethod yX6_fits, Cond.selects RX6 yX6_fits yX6_fits, Cond.code yX6_fits cX6_fits 3 (some .boolean), Cond.methodLink RX6 122 yX3_joined, Cond.static yX3_joined, Cond.initialized RX3, Cond.code yX3_joined cX3_joined 5 (some .long), Cond.methodLink RX6 56 yX6_added]
def wsX6_doubled_r2 : List Cond := [Cond.instanceMethod yX6_added, Cond.selects RX6 yX6_added yX6_added, Cond.code yX6_added cX6_added 5 (some .int), Cond.methodLink RX6 141 yX3_opposite, Cond.static yX3_opposite, Cond.code yX3_opposite cX3_opposite 3 (some .long), Cond.methodLink RX3 7 yX3_mask, Cond.static yX3_mask, Cond.code yX3_mask cX3_mask 1 (some .long)]
def wsX6_doubled : List Cond := .code yX6_doubled cX6_doubled 5 (some .int) :: ((wsX6_doubled_r1 ++ wsX6_doubled_r2) ++ wsX60)
def wsX6_told_r1 : List Cond := [Cond.methodLink RX6 42 yX6_within, Cond.static yX6_within, Cond.initialized RX6, Cond.code yX6_within cX6_within 3 (some .boolean), Cond.methodLink RX6 144 yX5_seedOf, Cond.static yX5_seedOf, Cond.initialized RX5, Cond.code yX5_seedOf cX5_seedOf 1 (some .int), Cond.methodLink RX5 7 yJ6_bitCount_0f7a4, Cond.static yJ6_bitCount_0f7a4, Cond.initialized RJ6, Cond.code yJ6_bitCount_0f7a4 cJ6_bitCount_0f7a4 1 (some .int), Cond.constant RJ6 265 (1431655765), Cond.constant RJ6 266 (858993459), Cond.constant RJ6 267 (252645135), Cond.methodLink RX6 52 yX6_fits, Cond.instanceMethod yX6_fits, Cond.selects RX6 yX6_fits yX6_fits, Cond.code yX6_fits cX6_fits 3 (some .boolean), Cond.fieldLink RX6 38 "CancelRows" "rows" "I", Cond.methodLink RX6 149 yX5_firstOfSeed, Cond.static yX5_firstOfSeed, Cond.code yX5_firstOfSeed cX5_firstOfSeed 1 (some .long), Cond.constantLong RX5 15 (6477200)]
def wsX6_told_r2 : List Cond := [Cond.constantLong RX5 17 (212), Cond.methodLink RX6 152 yX5_secondOfSeed, Cond.static yX5_secondOfSeed, Cond.code yX5_secondOfSeed cX5_secondOfSeed 1 (some .long), Cond.constantLong RX5 19 (60622224), Cond.constantLong RX5 21 (772), Cond.methodLink RX6 122 yX3_joined, Cond.static yX3_joined, Cond.initialized RX3, Cond.code yX3_joined cX3_joined 5 (some .long), Cond.methodLink RX6 141 yX3_opposite, Cond.static yX3_opposite, Cond.code yX3_opposite cX3_opposite 3 (some .long), Cond.methodLink RX3 7 yX3_mask, Cond.static yX3_mask, Cond.code yX3_mask cX3_mask 1 (some .long), Cond.methodLink RX6 56 yX6_added, Cond.instanceMethod yX6_added, Cond.selects RX6 yX6_added yX6_added, Cond.code yX6_added cX6_added 5 (some .int), Cond.fieldLink RX6 9 "CancelRows" "lengths" "[I", Cond.fieldLink RX6 13 "CancelRows" "numbers" "[J"]
def wsX6_told : List Cond := .code yX6_told cX6_told 10 (some .int) :: ((wsX6_told_r1 ++ wsX6_told_r2) ++ wsX60)
def wsX6_why : List Cond := .code yX6_why cX6_why 2 (some .int) :: ([.constant RX6 155 (1000000), .methodLink RX6 42 yX6_within, .static yX6_within, .initialized RX6, .code yX6_within cX6_within 3 (some .boolean), .methodLink RX6 156 yX4_rootOf, .static yX4_rootOf, .initialized RX4, .code yX4_rootOf cX4_rootOf 3 (some .int), .methodLink RX6 161 yX4_ways, .static yX4_ways, .code yX4_ways cX4_ways 5 (some .int), .methodLink RX4 13 Lib.Math.min.name, .static Lib.Math.min.name, .initialized "java/lang/Math", .code Lib.Math.min.name Lib.Math.min.code 2 (some .int), .methodLink RX4 7 yX4_rootOf, .methodLink RX4 19 yX4_ways, .methodLink RX6 165 yX4_hasPrimeOfRestThree, .static yX4_hasPrimeOfRestThree, .code yX4_hasPrimeOfRestThree cX4_hasPrimeOfRestThree 2 (some .boolean)])
def wsX6_squares : List Cond := .code yX6_squares cX6_squares 3 (some .int) :: ([.constant RX6 155 (1000000), .methodLink RX6 42 yX6_within, .static yX6_within, .initialized RX6, .code yX6_within cX6_within 3 (some .boolean), .methodLink RX6 156 yX4_rootOf, .static yX4_rootOf, .initialized RX4, .code yX4_rootOf cX4_rootOf 3 (some .int), .methodLink RX6 161 yX4_ways, .static yX4_ways, .code yX4_ways cX4_ways 5 (some .int), .methodLink RX4 13 Lib.Math.min.name, .static Lib.Math.min.name, .initialized "java/lang/Math", .code Lib.Math.min.name Lib.Math.min.code 2 (some .int), .methodLink RX4 7 yX4_rootOf, .methodLink RX4 19 yX4_ways])
def wsX6_pairListOf_r1 : List Cond := [Cond.fieldLink RX6 25 "CancelRows" "pairLists" "[LCancelRows$PairList;", Cond.classLink RX6 23 RX1, Cond.instantiable RX1 2, Cond.initialized RX1, Cond.methodLink RX6 198 yX1_init, Cond.instanceMethod yX1_init, Cond.code yX1_init cX1_init 5 none, Cond.methodLink RX1 1 objectInit, Cond.instanceMethod objectInit, Cond.code objectInit ⟨#[0xb1]⟩ 1 none, Cond.fieldLink RX1 7 "CancelRows$PairList" "many" "I", Cond.classLink RX1 13 RJx4a65c, Cond.instantiable RJx4a65c 3, Cond.initialized RJx4a65c, Cond.fieldLink RX1 16 "CancelRows$PairList" "codes" "Ljava/util/ArrayList;", Cond.methodLink RX1 15 yJx4a65c_init_da8c8, Cond.instanceMethod yJx4a65c_init_da8c8, Cond.code yJx4a65c_init_da8c8 cJx4a65c_init_da8c8 1 none, Cond.fieldLink RJx4a65c 39 "java/util/ArrayList" "DEFAULTCAPACITY_EMPTY_ELEMENTDATA" "[Ljava/lang/Object;", Cond.fieldLink RJx4a65c 9 "java/util/ArrayList" "elementData" "[Ljava/lang/Object;", Cond.methodLink RJx4a65c 1 yJxc12de_init_da8c8, Cond.instanceMethod yJxc12de_init_da8c8, Cond.initialized RJxc12de, Cond.code yJxc12de_init_da8c8 cJxc12de_init_da8c8 1 none]
def wsX6_pairListOf_r2 : List Cond := [Cond.fieldLink RJxc12de 7 "java/util/AbstractList" "modCount" "I", Cond.methodLink RJxc12de 1 yJxa1e45_init_da8c8, Cond.instanceMethod yJxa1e45_init_da8c8, Cond.initialized RJxa1e45, Cond.code yJxa1e45_init_da8c8 cJxa1e45_init_da8c8 1 none, Cond.methodLink RJxa1e45 1 objectInit, Cond.methodLink RX1 20 yX3_firstLeftOpen, Cond.static yX3_firstLeftOpen, Cond.initialized RX3, Cond.code yX3_firstLeftOpen cX3_firstLeftOpen 6 (some .int), Cond.methodLink RX3 19 yX3_openSum, Cond.static yX3_openSum, Cond.code yX3_openSum cX3_openSum 5 (some .int), Cond.methodLink RX3 7 yX3_mask, Cond.static yX3_mask, Cond.code yX3_mask cX3_mask 1 (some .long), Cond.methodLink RX3 13 yJ13_bitCount_95d88, Cond.static yJ13_bitCount_95d88, Cond.initialized RJ13, Cond.code yJ13_bitCount_95d88 cJ13_bitCount_95d88 2 (some .int), Cond.constantLong RJ13 314 (6148914691236517205), Cond.constantLong RJ13 316 (3689348814741910323), Cond.constantLong RJ13 318 (1085102592571150095), Cond.methodLink RX1 26 yX1_keepIfLeast]
def wsX6_pairListOf_r3 : List Cond := [Cond.instanceMethod yX1_keepIfLeast, Cond.selects RX1 yX1_keepIfLeast yX1_keepIfLeast, Cond.code yX1_keepIfLeast cX1_keepIfLeast 11 none, Cond.methodLink RX1 43 yX1_codeOf, Cond.static yX1_codeOf, Cond.code yX1_codeOf cX1_codeOf 4 (some .int), Cond.methodLink RX1 47 yX3_turned, Cond.static yX3_turned, Cond.code yX3_turned cX3_turned 6 (some .long), Cond.constantLong RX3 40 (2863311530), Cond.methodLink RX3 33 yX3_reversed, Cond.static yX3_reversed, Cond.code yX3_reversed cX3_reversed 6 (some .long), Cond.methodLink RX3 37 yX3_opposite, Cond.static yX3_opposite, Cond.code yX3_opposite cX3_opposite 3 (some .long), Cond.methodLink RX1 51 yJ6_valueOf_2dffe, Cond.static yJ6_valueOf_2dffe, Cond.initialized RJ6, Cond.code yJ6_valueOf_2dffe cJ6_valueOf_2dffe 1 (some (.object "java/lang/Integer")), Cond.fieldLink RJ6 191 "java/lang/Integer$IntegerCache" "high" "I", Cond.fieldLink RJ6 195 "java/lang/Integer$IntegerCache" "cache" "[Ljava/lang/Integer;", Cond.classLink RJ6 1 RJ6, Cond.instantiable RJ6 1]
def wsX6_pairListOf_r4 : List Cond := [Cond.methodLink RJ6 199 yJ6_init_d00df, Cond.instanceMethod yJ6_init_d00df, Cond.code yJ6_init_d00df cJ6_init_d00df 2 none, Cond.fieldLink RJ6 205 "java/lang/Integer" "value" "I", Cond.methodLink RJ6 202 yJxd2413_init_da8c8, Cond.instanceMethod yJxd2413_init_da8c8, Cond.initialized RJxd2413, Cond.code yJxd2413_init_da8c8 cJxd2413_init_da8c8 1 none, Cond.methodLink RJxd2413 1 objectInit, Cond.methodLink RX1 55 yJx4a65c_add_9ea2d, Cond.instanceMethod yJx4a65c_add_9ea2d, Cond.selects RJx4a65c yJx4a65c_add_9ea2d yJx4a65c_add_9ea2d, Cond.code yJx4a65c_add_9ea2d cJx4a65c_add_9ea2d 2 (some .boolean), Cond.fieldLink RJx4a65c 63 "java/util/ArrayList" "modCount" "I", Cond.sameField "java/util/ArrayList" "java/util/AbstractList" "modCount" "I", Cond.fieldLink RJx4a65c 48 "java/util/ArrayList" "size" "I", Cond.methodLink RJx4a65c 131 yJx4a65c_add_72be8, Cond.instanceMethod yJx4a65c_add_72be8, Cond.selects RJx4a65c yJx4a65c_add_72be8 yJx4a65c_add_72be8, Cond.code yJx4a65c_add_72be8 cJx4a65c_add_72be8 4 none, Cond.methodLink RJx4a65c 129 yJx4a65c_grow_d5877, Cond.instanceMethod yJx4a65c_grow_d5877, Cond.selects RJx4a65c yJx4a65c_grow_d5877 yJx4a65c_grow_d5877, Cond.code yJx4a65c_grow_d5877 cJx4a65c_grow_d5877 1 (some (.array (.object "java/lang/Object")))]
def wsX6_pairListOf_r5 : List Cond := [Cond.methodLink RJx4a65c 69 yJx4a65c_grow_92f84, Cond.instanceMethod yJx4a65c_grow_92f84, Cond.selects RJx4a65c yJx4a65c_grow_92f84 yJx4a65c_grow_92f84, Cond.code yJx4a65c_grow_92f84 cJx4a65c_grow_92f84 4 (some (.array (.object "java/lang/Object"))), Cond.methodLink RJx4a65c 79 Lib.Math.max.name, Cond.static Lib.Math.max.name, Cond.initialized "java/lang/Math", Cond.code Lib.Math.max.name Lib.Math.max.code 2 (some .int), Cond.classLink RJx4a65c 7 "java/lang/Object", Cond.methodLink RJx4a65c 73 yJ8_newLength_cabcc, Cond.static yJ8_newLength_cabcc, Cond.initialized RJ8, Cond.code yJ8_newLength_cabcc cJ8_newLength_cabcc 4 (some .int), Cond.methodLink RJ8 194 Lib.Math.max.name, Cond.constant RJ8 200 (2147483639), Cond.methodLink RJ8 201 yJ8_hugeLength_7cf53, Cond.static yJ8_hugeLength_7cf53, Cond.code yJ8_hugeLength_7cf53 cJ8_hugeLength_7cf53 3 (some .int), Cond.methodLink RJx4a65c 66 yJ7_copyOf_1904c, Cond.static yJ7_copyOf_1904c, Cond.initialized RJ7, Cond.code yJ7_copyOf_1904c cJ7_copyOf_1904c 2 (some (.array (.object "java/lang/Object"))), Cond.methodLink RJ7 86 ⟨"java/lang/Object", "getClass", "()Ljava/lang/Class;"⟩, Cond.selects "[Ljava/lang/Object;" ⟨"java/lang/Object", "getClass", "()Ljava/lang/Class;"⟩ ⟨"java/lang/Object", "getClass", "()Ljava/lang/Class;"⟩]
def wsX6_pairListOf_r6 : List Cond := [Cond.instanceMethod ⟨"java/lang/Object", "getClass", "()Ljava/lang/Class;"⟩, Cond.native ⟨"java/lang/Object", "getClass", "()Ljava/lang/Class;"⟩, Cond.methodLink RJ7 300 yJ7_copyOf_6403c, Cond.static yJ7_copyOf_6403c, Cond.code yJ7_copyOf_6403c cJ7_copyOf_6403c 4 (some (.array (.object "java/lang/Object"))), Cond.classLink RJ7 110 "[Ljava/lang/Object;", Cond.classLink RJ7 2 "java/lang/Object", Cond.methodLink RJ7 304 Lib.Math.min.name, Cond.static Lib.Math.min.name, Cond.code Lib.Math.min.name Lib.Math.min.code 2 (some .int), Cond.methodLink RJ7 150 arraycopyName, Cond.native arraycopyName, Cond.static arraycopyName, Cond.initialized "java/lang/System"]
def wsX6_pairListOf : List Cond := .code yX6_pairListOf cX6_pairListOf 2 (some (.object "CancelRows$PairList")) :: ((wsX6_pairListOf_r1 ++ (wsX6_pairListOf_r2 ++ (wsX6_pairListOf_r3 ++ (wsX6_pairListOf_r4 ++ (wsX6_pairListOf_r5 ++ wsX6_pairListOf_r6))))) ++ wsX60 ++ wsX10 ++ wsJx4a65c0 ++ wsJ60)
def wsX6_pairs_r1 : List Cond := [Cond.fieldLink RX6 172 "CancelRows$PairList" "many" "I", Cond.methodLink RX6 42 yX6_within, Cond.static yX6_within, Cond.initialized RX6, Cond.code yX6_within cX6_within 3 (some .boolean), Cond.methodLink RX6 168 yX6_pairListOf, Cond.instanceMethod yX6_pairListOf, Cond.selects RX6 yX6_pairListOf yX6_pairListOf, Cond.code yX6_pairListOf cX6_pairListOf 2 (some (.object "CancelRows$PairList")), Cond.fieldLink RX6 25 "CancelRows" "pairLists" "[LCancelRows$PairList;", Cond.classLink RX6 23 RX1, Cond.instantiable RX1 2, Cond.initialized RX1, Cond.methodLink RX6 198 yX1_init, Cond.instanceMethod yX1_init, Cond.code yX1_init cX1_init 5 none, Cond.methodLink RX1 1 objectInit, Cond.instanceMethod objectInit, Cond.code objectInit ⟨#[0xb1]⟩ 1 none, Cond.fieldLink RX1 7 "CancelRows$PairList" "many" "I", Cond.classLink RX1 13 RJx4a65c, Cond.instantiable RJx4a65c 3, Cond.initialized RJx4a65c, Cond.fieldLink RX1 16 "CancelRows$PairList" "codes" "Ljava/util/ArrayList;"]
def wsX6_pairs_r2 : List Cond := [Cond.methodLink RX1 15 yJx4a65c_init_da8c8, Cond.instanceMethod yJx4a65c_init_da8c8, Cond.code yJx4a65c_init_da8c8 cJx4a65c_init_da8c8 1 none, Cond.fieldLink RJx4a65c 39 "java/util/ArrayList" "DEFAULTCAPACITY_EMPTY_ELEMENTDATA" "[Ljava/lang/Object;", Cond.fieldLink RJx4a65c 9 "java/util/ArrayList" "elementData" "[Ljava/lang/Object;", Cond.methodLink RJx4a65c 1 yJxc12de_init_da8c8, Cond.instanceMethod yJxc12de_init_da8c8, Cond.initialized RJxc12de, Cond.code yJxc12de_init_da8c8 cJxc12de_init_da8c8 1 none, Cond.fieldLink RJxc12de 7 "java/util/AbstractList" "modCount" "I", Cond.methodLink RJxc12de 1 yJxa1e45_init_da8c8, Cond.instanceMethod yJxa1e45_init_da8c8, Cond.initialized RJxa1e45, Cond.code yJxa1e45_init_da8c8 cJxa1e45_init_da8c8 1 none, Cond.methodLink RJxa1e45 1 objectInit, Cond.methodLink RX1 20 yX3_firstLeftOpen, Cond.static yX3_firstLeftOpen, Cond.initialized RX3, Cond.code yX3_firstLeftOpen cX3_firstLeftOpen 6 (some .int), Cond.methodLink RX3 19 yX3_openSum, Cond.static yX3_openSum, Cond.code yX3_openSum cX3_openSum 5 (some .int), Cond.methodLink RX3 7 yX3_mask, Cond.static yX3_mask]
def wsX6_pairs_r3 : List Cond := [Cond.code yX3_mask cX3_mask 1 (some .long), Cond.methodLink RX3 13 yJ13_bitCount_95d88, Cond.static yJ13_bitCount_95d88, Cond.initialized RJ13, Cond.code yJ13_bitCount_95d88 cJ13_bitCount_95d88 2 (some .int), Cond.constantLong RJ13 314 (6148914691236517205), Cond.constantLong RJ13 316 (3689348814741910323), Cond.constantLong RJ13 318 (1085102592571150095), Cond.methodLink RX1 26 yX1_keepIfLeast, Cond.instanceMethod yX1_keepIfLeast, Cond.selects RX1 yX1_keepIfLeast yX1_keepIfLeast, Cond.code yX1_keepIfLeast cX1_keepIfLeast 11 none, Cond.methodLink RX1 43 yX1_codeOf, Cond.static yX1_codeOf, Cond.code yX1_codeOf cX1_codeOf 4 (some .int), Cond.methodLink RX1 47 yX3_turned, Cond.static yX3_turned, Cond.code yX3_turned cX3_turned 6 (some .long), Cond.constantLong RX3 40 (2863311530), Cond.methodLink RX3 33 yX3_reversed, Cond.static yX3_reversed, Cond.code yX3_reversed cX3_reversed 6 (some .long), Cond.methodLink RX3 37 yX3_opposite, Cond.static yX3_opposite]
def wsX6_pairs_r4 : List Cond := [Cond.code yX3_opposite cX3_opposite 3 (some .long), Cond.methodLink RX1 51 yJ6_valueOf_2dffe, Cond.static yJ6_valueOf_2dffe, Cond.initialized RJ6, Cond.code yJ6_valueOf_2dffe cJ6_valueOf_2dffe 1 (some (.object "java/lang/Integer")), Cond.fieldLink RJ6 191 "java/lang/Integer$IntegerCache" "high" "I", Cond.fieldLink RJ6 195 "java/lang/Integer$IntegerCache" "cache" "[Ljava/lang/Integer;", Cond.classLink RJ6 1 RJ6, Cond.instantiable RJ6 1, Cond.methodLink RJ6 199 yJ6_init_d00df, Cond.instanceMethod yJ6_init_d00df, Cond.code yJ6_init_d00df cJ6_init_d00df 2 none, Cond.fieldLink RJ6 205 "java/lang/Integer" "value" "I", Cond.methodLink RJ6 202 yJxd2413_init_da8c8, Cond.instanceMethod yJxd2413_init_da8c8, Cond.initialized RJxd2413, Cond.code yJxd2413_init_da8c8 cJxd2413_init_da8c8 1 none, Cond.methodLink RJxd2413 1 objectInit, Cond.methodLink RX1 55 yJx4a65c_add_9ea2d, Cond.instanceMethod yJx4a65c_add_9ea2d, Cond.selects RJx4a65c yJx4a65c_add_9ea2d yJx4a65c_add_9ea2d, Cond.code yJx4a65c_add_9ea2d cJx4a65c_add_9ea2d 2 (some .boolean), Cond.fieldLink RJx4a65c 63 "java/util/ArrayList" "modCount" "I", Cond.sameField "java/util/ArrayList" "java/util/AbstractList" "modCount" "I"]
def wsX6_pairs_r5 : List Cond := [Cond.fieldLink RJx4a65c 48 "java/util/ArrayList" "size" "I", Cond.methodLink RJx4a65c 131 yJx4a65c_add_72be8, Cond.instanceMethod yJx4a65c_add_72be8, Cond.selects RJx4a65c yJx4a65c_add_72be8 yJx4a65c_add_72be8, Cond.code yJx4a65c_add_72be8 cJx4a65c_add_72be8 4 none, Cond.methodLink RJx4a65c 129 yJx4a65c_grow_d5877, Cond.instanceMethod yJx4a65c_grow_d5877, Cond.selects RJx4a65c yJx4a65c_grow_d5877 yJx4a65c_grow_d5877, Cond.code yJx4a65c_grow_d5877 cJx4a65c_grow_d5877 1 (some (.array (.object "java/lang/Object"))), Cond.methodLink RJx4a65c 69 yJx4a65c_grow_92f84, Cond.instanceMethod yJx4a65c_grow_92f84, Cond.selects RJx4a65c yJx4a65c_grow_92f84 yJx4a65c_grow_92f84, Cond.code yJx4a65c_grow_92f84 cJx4a65c_grow_92f84 4 (some (.array (.object "java/lang/Object"))), Cond.methodLink RJx4a65c 79 Lib.Math.max.name, Cond.static Lib.Math.max.name, Cond.initialized "java/lang/Math", Cond.code Lib.Math.max.name Lib.Math.max.code 2 (some .int), Cond.classLink RJx4a65c 7 "java/lang/Object", Cond.methodLink RJx4a65c 73 yJ8_newLength_cabcc, Cond.static yJ8_newLength_cabcc, Cond.initialized RJ8, Cond.code yJ8_newLength_cabcc cJ8_newLength_cabcc 4 (some .int), Cond.methodLink RJ8 194 Lib.Math.max.name, Cond.constant RJ8 200 (2147483639)]
def wsX6_pairs_r6 : List Cond := [Cond.methodLink RJ8 201 yJ8_hugeLength_7cf53, Cond.static yJ8_hugeLength_7cf53, Cond.code yJ8_hugeLength_7cf53 cJ8_hugeLength_7cf53 3 (some .int), Cond.methodLink RJx4a65c 66 yJ7_copyOf_1904c, Cond.static yJ7_copyOf_1904c, Cond.initialized RJ7, Cond.code yJ7_copyOf_1904c cJ7_copyOf_1904c 2 (some (.array (.object "java/lang/Object"))), Cond.methodLink RJ7 86 ⟨"java/lang/Object", "getClass", "()Ljava/lang/Class;"⟩, Cond.selects "[Ljava/lang/Object;" ⟨"java/lang/Object", "getClass", "()Ljava/lang/Class;"⟩ ⟨"java/lang/Object", "getClass", "()Ljava/lang/Class;"⟩, Cond.instanceMethod ⟨"java/lang/Object", "getClass", "()Ljava/lang/Class;"⟩, Cond.native ⟨"java/lang/Object", "getClass", "()Ljava/lang/Class;"⟩, Cond.methodLink RJ7 300 yJ7_copyOf_6403c, Cond.static yJ7_copyOf_6403c, Cond.code yJ7_copyOf_6403c cJ7_copyOf_6403c 4 (some (.array (.object "java/lang/Object"))), Cond.classLink RJ7 110 "[Ljava/lang/Object;", Cond.classLink RJ7 2 "java/lang/Object", Cond.methodLink RJ7 304 Lib.Math.min.name, Cond.static Lib.Math.min.name, Cond.code Lib.Math.min.name Lib.Math.min.code 2 (some .int), Cond.methodLink RJ7 150 arraycopyName, Cond.native arraycopyName, Cond.static arraycopyName, Cond.initialized "java/lang/System", Cond.methodLink RX6 175 yX1_kinds]
def wsX6_pairs_r7 : List Cond := [Cond.instanceMethod yX1_kinds, Cond.selects RX1 yX1_kinds yX1_kinds, Cond.code yX1_kinds cX1_kinds 1 (some .int), Cond.methodLink RX1 30 yJx4a65c_size_8abf5, Cond.instanceMethod yJx4a65c_size_8abf5, Cond.selects RJx4a65c yJx4a65c_size_8abf5 yJx4a65c_size_8abf5, Cond.code yJx4a65c_size_8abf5 cJx4a65c_size_8abf5 1 (some .int), Cond.methodLink RX6 179 yX1_codeAt, Cond.instanceMethod yX1_codeAt, Cond.selects RX1 yX1_codeAt yX1_codeAt, Cond.code yX1_codeAt cX1_codeAt 2 (some .int), Cond.classLink RX1 38 "java/lang/Integer", Cond.methodLink RX1 34 yJx4a65c_get_915e3, Cond.instanceMethod yJx4a65c_get_915e3, Cond.selects RJx4a65c yJx4a65c_get_915e3 yJx4a65c_get_915e3, Cond.code yJx4a65c_get_915e3 cJx4a65c_get_915e3 2 (some (.object "java/lang/Object")), Cond.methodLink RJx4a65c 118 yJ15_checkIndex_7cf53, Cond.static yJ15_checkIndex_7cf53, Cond.initialized RJ15, Cond.code yJ15_checkIndex_7cf53 cJ15_checkIndex_7cf53 2 (some .int), Cond.methodLink RJ15 105 yJ3_checkIndex_8e157, Cond.static yJ3_checkIndex_8e157, Cond.initialized RJ3, Cond.code yJ3_checkIndex_8e157 cJ3_checkIndex_8e157 3 (some .int)]
def wsX6_pairs_r8 : List Cond := [Cond.methodLink RJx4a65c 123 yJx4a65c_elementData_915e3, Cond.instanceMethod yJx4a65c_elementData_915e3, Cond.selects RJx4a65c yJx4a65c_elementData_915e3 yJx4a65c_elementData_915e3, Cond.code yJx4a65c_elementData_915e3 cJx4a65c_elementData_915e3 2 (some (.object "java/lang/Object")), Cond.methodLink RX1 40 yJ6_intValue_8abf5, Cond.instanceMethod yJ6_intValue_8abf5, Cond.selects RJ6 yJ6_intValue_8abf5 yJ6_intValue_8abf5, Cond.code yJ6_intValue_8abf5 cJ6_intValue_8abf5 1 (some .int)]
def wsX6_pairs : List Cond := .code yX6_pairs cX6_pairs 4 (some .int) :: ((wsX6_pairs_r1 ++ (wsX6_pairs_r2 ++ (wsX6_pairs_r3 ++ (wsX6_pairs_r4 ++ (wsX6_pairs_r5 ++ (wsX6_pairs_r6 ++ (wsX6_pairs_r7 ++ wsX6_pairs_r8))))))) ++ wsX10 ++ wsX60 ++ wsJx4a65c0 ++ wsJ60)
def wsX6_pair_r1 : List Cond := [Cond.methodLink RX6 42 yX6_within, Cond.static yX6_within, Cond.initialized RX6, Cond.code yX6_within cX6_within 3 (some .boolean), Cond.methodLink RX6 168 yX6_pairListOf, Cond.instanceMethod yX6_pairListOf, Cond.selects RX6 yX6_pairListOf yX6_pairListOf, Cond.code yX6_pairListOf cX6_pairListOf 2 (some (.object "CancelRows$PairList")), Cond.fieldLink RX6 25 "CancelRows" "pairLists" "[LCancelRows$PairList;", Cond.classLink RX6 23 RX1, Cond.instantiable RX1 2, Cond.initialized RX1, Cond.methodLink RX6 198 yX1_init, Cond.instanceMethod yX1_init, Cond.code yX1_init cX1_init 5 none, Cond.methodLink RX1 1 objectInit, Cond.instanceMethod objectInit, Cond.code objectInit ⟨#[0xb1]⟩ 1 none, Cond.fieldLink RX1 7 "CancelRows$PairList" "many" "I", Cond.classLink RX1 13 RJx4a65c, Cond.instantiable RJx4a65c 3, Cond.initialized RJx4a65c, Cond.fieldLink RX1 16 "CancelRows$PairList" "codes" "Ljava/util/ArrayList;", Cond.methodLink RX1 15 yJx4a65c_init_da8c8]
def wsX6_pair_r2 : List Cond := [Cond.instanceMethod yJx4a65c_init_da8c8, Cond.code yJx4a65c_init_da8c8 cJx4a65c_init_da8c8 1 none, Cond.fieldLink RJx4a65c 39 "java/util/ArrayList" "DEFAULTCAPACITY_EMPTY_ELEMENTDATA" "[Ljava/lang/Object;", Cond.fieldLink RJx4a65c 9 "java/util/ArrayList" "elementData" "[Ljava/lang/Object;", Cond.methodLink RJx4a65c 1 yJxc12de_init_da8c8, Cond.instanceMethod yJxc12de_init_da8c8, Cond.initialized RJxc12de, Cond.code yJxc12de_init_da8c8 cJxc12de_init_da8c8 1 none, Cond.fieldLink RJxc12de 7 "java/util/AbstractList" "modCount" "I", Cond.methodLink RJxc12de 1 yJxa1e45_init_da8c8, Cond.instanceMethod yJxa1e45_init_da8c8, Cond.initialized RJxa1e45, Cond.code yJxa1e45_init_da8c8 cJxa1e45_init_da8c8 1 none, Cond.methodLink RJxa1e45 1 objectInit, Cond.methodLink RX1 20 yX3_firstLeftOpen, Cond.static yX3_firstLeftOpen, Cond.initialized RX3, Cond.code yX3_firstLeftOpen cX3_firstLeftOpen 6 (some .int), Cond.methodLink RX3 19 yX3_openSum, Cond.static yX3_openSum, Cond.code yX3_openSum cX3_openSum 5 (some .int), Cond.methodLink RX3 7 yX3_mask, Cond.static yX3_mask, Cond.code yX3_mask cX3_mask 1 (some .long)]
def wsX6_pair_r3 : List Cond := [Cond.methodLink RX3 13 yJ13_bitCount_95d88, Cond.static yJ13_bitCount_95d88, Cond.initialized RJ13, Cond.code yJ13_bitCount_95d88 cJ13_bitCount_95d88 2 (some .int), Cond.constantLong RJ13 314 (6148914691236517205), Cond.constantLong RJ13 316 (3689348814741910323), Cond.constantLong RJ13 318 (1085102592571150095), Cond.methodLink RX1 26 yX1_keepIfLeast, Cond.instanceMethod yX1_keepIfLeast, Cond.selects RX1 yX1_keepIfLeast yX1_keepIfLeast, Cond.code yX1_keepIfLeast cX1_keepIfLeast 11 none, Cond.methodLink RX1 43 yX1_codeOf, Cond.static yX1_codeOf, Cond.code yX1_codeOf cX1_codeOf 4 (some .int), Cond.methodLink RX1 47 yX3_turned, Cond.static yX3_turned, Cond.code yX3_turned cX3_turned 6 (some .long), Cond.constantLong RX3 40 (2863311530), Cond.methodLink RX3 33 yX3_reversed, Cond.static yX3_reversed, Cond.code yX3_reversed cX3_reversed 6 (some .long), Cond.methodLink RX3 37 yX3_opposite, Cond.static yX3_opposite, Cond.code yX3_opposite cX3_opposite 3 (some .long)]
def wsX6_pair_r4 : List Cond := [Cond.methodLink RX1 51 yJ6_valueOf_2dffe, Cond.static yJ6_valueOf_2dffe, Cond.initialized RJ6, Cond.code yJ6_valueOf_2dffe cJ6_valueOf_2dffe 1 (some (.object "java/lang/Integer")), Cond.fieldLink RJ6 191 "java/lang/Integer$IntegerCache" "high" "I", Cond.fieldLink RJ6 195 "java/lang/Integer$IntegerCache" "cache" "[Ljava/lang/Integer;", Cond.classLink RJ6 1 RJ6, Cond.instantiable RJ6 1, Cond.methodLink RJ6 199 yJ6_init_d00df, Cond.instanceMethod yJ6_init_d00df, Cond.code yJ6_init_d00df cJ6_init_d00df 2 none, Cond.fieldLink RJ6 205 "java/lang/Integer" "value" "I", Cond.methodLink RJ6 202 yJxd2413_init_da8c8, Cond.instanceMethod yJxd2413_init_da8c8, Cond.initialized RJxd2413, Cond.code yJxd2413_init_da8c8 cJxd2413_init_da8c8 1 none, Cond.methodLink RJxd2413 1 objectInit, Cond.methodLink RX1 55 yJx4a65c_add_9ea2d, Cond.instanceMethod yJx4a65c_add_9ea2d, Cond.selects RJx4a65c yJx4a65c_add_9ea2d yJx4a65c_add_9ea2d, Cond.code yJx4a65c_add_9ea2d cJx4a65c_add_9ea2d 2 (some .boolean), Cond.fieldLink RJx4a65c 63 "java/util/ArrayList" "modCount" "I", Cond.sameField "java/util/ArrayList" "java/util/AbstractList" "modCount" "I", Cond.fieldLink RJx4a65c 48 "java/util/ArrayList" "size" "I"]
def wsX6_pair_r5 : List Cond := [Cond.methodLink RJx4a65c 131 yJx4a65c_add_72be8, Cond.instanceMethod yJx4a65c_add_72be8, Cond.selects RJx4a65c yJx4a65c_add_72be8 yJx4a65c_add_72be8, Cond.code yJx4a65c_add_72be8 cJx4a65c_add_72be8 4 none, Cond.methodLink RJx4a65c 129 yJx4a65c_grow_d5877, Cond.instanceMethod yJx4a65c_grow_d5877, Cond.selects RJx4a65c yJx4a65c_grow_d5877 yJx4a65c_grow_d5877, Cond.code yJx4a65c_grow_d5877 cJx4a65c_grow_d5877 1 (some (.array (.object "java/lang/Object"))), Cond.methodLink RJx4a65c 69 yJx4a65c_grow_92f84, Cond.instanceMethod yJx4a65c_grow_92f84, Cond.selects RJx4a65c yJx4a65c_grow_92f84 yJx4a65c_grow_92f84, Cond.code yJx4a65c_grow_92f84 cJx4a65c_grow_92f84 4 (some (.array (.object "java/lang/Object"))), Cond.methodLink RJx4a65c 79 Lib.Math.max.name, Cond.static Lib.Math.max.name, Cond.initialized "java/lang/Math", Cond.code Lib.Math.max.name Lib.Math.max.code 2 (some .int), Cond.classLink RJx4a65c 7 "java/lang/Object", Cond.methodLink RJx4a65c 73 yJ8_newLength_cabcc, Cond.static yJ8_newLength_cabcc, Cond.initialized RJ8, Cond.code yJ8_newLength_cabcc cJ8_newLength_cabcc 4 (some .int), Cond.methodLink RJ8 194 Lib.Math.max.name, Cond.constant RJ8 200 (2147483639), Cond.methodLink RJ8 201 yJ8_hugeLength_7cf53]
def wsX6_pair_r6 : List Cond := [Cond.static yJ8_hugeLength_7cf53, Cond.code yJ8_hugeLength_7cf53 cJ8_hugeLength_7cf53 3 (some .int), Cond.methodLink RJx4a65c 66 yJ7_copyOf_1904c, Cond.static yJ7_copyOf_1904c, Cond.initialized RJ7, Cond.code yJ7_copyOf_1904c cJ7_copyOf_1904c 2 (some (.array (.object "java/lang/Object"))), Cond.methodLink RJ7 86 ⟨"java/lang/Object", "getClass", "()Ljava/lang/Class;"⟩, Cond.selects "[Ljava/lang/Object;" ⟨"java/lang/Object", "getClass", "()Ljava/lang/Class;"⟩ ⟨"java/lang/Object", "getClass", "()Ljava/lang/Class;"⟩, Cond.instanceMethod ⟨"java/lang/Object", "getClass", "()Ljava/lang/Class;"⟩, Cond.native ⟨"java/lang/Object", "getClass", "()Ljava/lang/Class;"⟩, Cond.methodLink RJ7 300 yJ7_copyOf_6403c, Cond.static yJ7_copyOf_6403c, Cond.code yJ7_copyOf_6403c cJ7_copyOf_6403c 4 (some (.array (.object "java/lang/Object"))), Cond.classLink RJ7 110 "[Ljava/lang/Object;", Cond.classLink RJ7 2 "java/lang/Object", Cond.methodLink RJ7 304 Lib.Math.min.name, Cond.static Lib.Math.min.name, Cond.code Lib.Math.min.name Lib.Math.min.code 2 (some .int), Cond.methodLink RJ7 150 arraycopyName, Cond.native arraycopyName, Cond.static arraycopyName, Cond.initialized "java/lang/System", Cond.methodLink RX6 175 yX1_kinds, Cond.instanceMethod yX1_kinds]
def wsX6_pair_r7 : List Cond := [Cond.selects RX1 yX1_kinds yX1_kinds, Cond.code yX1_kinds cX1_kinds 1 (some .int), Cond.methodLink RX1 30 yJx4a65c_size_8abf5, Cond.instanceMethod yJx4a65c_size_8abf5, Cond.selects RJx4a65c yJx4a65c_size_8abf5 yJx4a65c_size_8abf5, Cond.code yJx4a65c_size_8abf5 cJx4a65c_size_8abf5 1 (some .int), Cond.methodLink RX6 179 yX1_codeAt, Cond.instanceMethod yX1_codeAt, Cond.selects RX1 yX1_codeAt yX1_codeAt, Cond.code yX1_codeAt cX1_codeAt 2 (some .int), Cond.classLink RX1 38 "java/lang/Integer", Cond.methodLink RX1 34 yJx4a65c_get_915e3, Cond.instanceMethod yJx4a65c_get_915e3, Cond.selects RJx4a65c yJx4a65c_get_915e3 yJx4a65c_get_915e3, Cond.code yJx4a65c_get_915e3 cJx4a65c_get_915e3 2 (some (.object "java/lang/Object")), Cond.methodLink RJx4a65c 118 yJ15_checkIndex_7cf53, Cond.static yJ15_checkIndex_7cf53, Cond.initialized RJ15, Cond.code yJ15_checkIndex_7cf53 cJ15_checkIndex_7cf53 2 (some .int), Cond.methodLink RJ15 105 yJ3_checkIndex_8e157, Cond.static yJ3_checkIndex_8e157, Cond.initialized RJ3, Cond.code yJ3_checkIndex_8e157 cJ3_checkIndex_8e157 3 (some .int), Cond.methodLink RJx4a65c 123 yJx4a65c_elementData_915e3]
def wsX6_pair_r8 : List Cond := [Cond.instanceMethod yJx4a65c_elementData_915e3, Cond.selects RJx4a65c yJx4a65c_elementData_915e3 yJx4a65c_elementData_915e3, Cond.code yJx4a65c_elementData_915e3 cJx4a65c_elementData_915e3 2 (some (.object "java/lang/Object")), Cond.methodLink RX1 40 yJ6_intValue_8abf5, Cond.instanceMethod yJ6_intValue_8abf5, Cond.selects RJ6 yJ6_intValue_8abf5 yJ6_intValue_8abf5, Cond.code yJ6_intValue_8abf5 cJ6_intValue_8abf5 1 (some .int)]
def wsX6_pair : List Cond := .code yX6_pair cX6_pair 4 (some .int) :: ((wsX6_pair_r1 ++ (wsX6_pair_r2 ++ (wsX6_pair_r3 ++ (wsX6_pair_r4 ++ (wsX6_pair_r5 ++ (wsX6_pair_r6 ++ (wsX6_pair_r7 ++ wsX6_pair_r8))))))) ++ wsX60 ++ wsX10 ++ wsJx4a65c0 ++ wsJ60)
def wsX6_bestRowsOf_r1 : List Cond := [Cond.fieldLink RX6 31 "CancelRows" "bestByPeak" "[LCancelRows$BestRows;", Cond.fieldLink RX6 35 "CancelRows" "bestByEnergy" "[LCancelRows$BestRows;", Cond.classLink RX6 29 RX0, Cond.instantiable RX0 4, Cond.initialized RX0, Cond.methodLink RX6 201 yX0_init, Cond.instanceMethod yX0_init, Cond.code yX0_init cX0_init 7 none, Cond.methodLink RX0 1 objectInit, Cond.instanceMethod objectInit, Cond.code objectInit ⟨#[0xb1]⟩ 1 none, Cond.constant RX0 9 (1000000), Cond.fieldLink RX0 10 "CancelRows$BestRows" "value" "I", Cond.fieldLink RX0 23 "CancelRows$BestRows" "leastNumber" "I", Cond.fieldLink RX0 26 "CancelRows$BestRows" "many" "I", Cond.fieldLink RX0 29 "CancelRows$BestRows" "kinds" "I", Cond.methodLink RX0 14 yX3_peak, Cond.static yX3_peak, Cond.initialized RX3, Cond.code yX3_peak cX3_peak 5 (some .int), Cond.methodLink RX3 23 Lib.Math.abs.name, Cond.static Lib.Math.abs.name, Cond.initialized "java/lang/Math", Cond.code Lib.Math.abs.name Lib.Math.abs.code 1 (some .int)]
def wsX6_bestRowsOf_r2 : List Cond := [Cond.methodLink RX3 29 Lib.Math.max.name, Cond.static Lib.Math.max.name, Cond.code Lib.Math.max.name Lib.Math.max.code 2 (some .int), Cond.methodLink RX3 19 yX3_openSum, Cond.static yX3_openSum, Cond.code yX3_openSum cX3_openSum 5 (some .int), Cond.methodLink RX3 7 yX3_mask, Cond.static yX3_mask, Cond.code yX3_mask cX3_mask 1 (some .long), Cond.methodLink RX3 13 yJ13_bitCount_95d88, Cond.static yJ13_bitCount_95d88, Cond.initialized RJ13, Cond.code yJ13_bitCount_95d88 cJ13_bitCount_95d88 2 (some .int), Cond.constantLong RJ13 314 (6148914691236517205), Cond.constantLong RJ13 316 (3689348814741910323), Cond.constantLong RJ13 318 (1085102592571150095), Cond.methodLink RX0 20 yX3_energy, Cond.static yX3_energy, Cond.code yX3_energy cX3_energy 6 (some .int), Cond.methodLink RX0 32 yX3_leastTurned, Cond.static yX3_leastTurned, Cond.code yX3_leastTurned cX3_leastTurned 6 (some .long), Cond.methodLink RX3 46 Lib.MathLoose.min_long.x, Cond.static Lib.MathLoose.min_long.x]
def wsX6_bestRowsOf_r3 : List Cond := [Cond.code Lib.MathLoose.min_long.x Lib.MathLoose.min_long.code 4 (some .long), Cond.methodLink RX3 42 yX3_turned, Cond.static yX3_turned, Cond.code yX3_turned cX3_turned 6 (some .long), Cond.constantLong RX3 40 (2863311530), Cond.methodLink RX3 33 yX3_reversed, Cond.static yX3_reversed, Cond.code yX3_reversed cX3_reversed 6 (some .long), Cond.methodLink RX3 37 yX3_opposite, Cond.static yX3_opposite, Cond.code yX3_opposite cX3_opposite 3 (some .long)]
def wsX6_bestRowsOf : List Cond := .code yX6_bestRowsOf cX6_bestRowsOf 4 (some (.object "CancelRows$BestRows")) :: ((wsX6_bestRowsOf_r1 ++ (wsX6_bestRowsOf_r2 ++ wsX6_bestRowsOf_r3)) ++ wsX60 ++ wsX00)
def wsX6_best_r1 : List Cond := [Cond.fieldLink RX6 186 "CancelRows$BestRows" "value" "I", Cond.fieldLink RX6 189 "CancelRows$BestRows" "leastNumber" "I", Cond.fieldLink RX6 192 "CancelRows$BestRows" "many" "I", Cond.fieldLink RX6 193 "CancelRows$BestRows" "kinds" "I", Cond.methodLink RX6 42 yX6_within, Cond.static yX6_within, Cond.initialized RX6, Cond.code yX6_within cX6_within 3 (some .boolean), Cond.methodLink RX6 182 yX6_bestRowsOf, Cond.instanceMethod yX6_bestRowsOf, Cond.selects RX6 yX6_bestRowsOf yX6_bestRowsOf, Cond.code yX6_bestRowsOf cX6_bestRowsOf 4 (some (.object "CancelRows$BestRows")), Cond.fieldLink RX6 31 "CancelRows" "bestByPeak" "[LCancelRows$BestRows;", Cond.fieldLink RX6 35 "CancelRows" "bestByEnergy" "[LCancelRows$BestRows;", Cond.classLink RX6 29 RX0, Cond.instantiable RX0 4, Cond.initialized RX0, Cond.methodLink RX6 201 yX0_init, Cond.instanceMethod yX0_init, Cond.code yX0_init cX0_init 7 none, Cond.methodLink RX0 1 objectInit, Cond.instanceMethod objectInit, Cond.code objectInit ⟨#[0xb1]⟩ 1 none, Cond.constant RX0 9 (1000000)]
def wsX6_best_r2 : List Cond := [Cond.fieldLink RX0 10 "CancelRows$BestRows" "value" "I", Cond.fieldLink RX0 23 "CancelRows$BestRows" "leastNumber" "I", Cond.fieldLink RX0 26 "CancelRows$BestRows" "many" "I", Cond.fieldLink RX0 29 "CancelRows$BestRows" "kinds" "I", Cond.methodLink RX0 14 yX3_peak, Cond.static yX3_peak, Cond.initialized RX3, Cond.code yX3_peak cX3_peak 5 (some .int), Cond.methodLink RX3 23 Lib.Math.abs.name, Cond.static Lib.Math.abs.name, Cond.initialized "java/lang/Math", Cond.code Lib.Math.abs.name Lib.Math.abs.code 1 (some .int), Cond.methodLink RX3 29 Lib.Math.max.name, Cond.static Lib.Math.max.name, Cond.code Lib.Math.max.name Lib.Math.max.code 2 (some .int), Cond.methodLink RX3 19 yX3_openSum, Cond.static yX3_openSum, Cond.code yX3_openSum cX3_openSum 5 (some .int), Cond.methodLink RX3 7 yX3_mask, Cond.static yX3_mask, Cond.code yX3_mask cX3_mask 1 (some .long), Cond.methodLink RX3 13 yJ13_bitCount_95d88, Cond.static yJ13_bitCount_95d88, Cond.initialized RJ13]
def wsX6_best_r3 : List Cond := [Cond.code yJ13_bitCount_95d88 cJ13_bitCount_95d88 2 (some .int), Cond.constantLong RJ13 314 (6148914691236517205), Cond.constantLong RJ13 316 (3689348814741910323), Cond.constantLong RJ13 318 (1085102592571150095), Cond.methodLink RX0 20 yX3_energy, Cond.static yX3_energy, Cond.code yX3_energy cX3_energy 6 (some .int), Cond.methodLink RX0 32 yX3_leastTurned, Cond.static yX3_leastTurned, Cond.code yX3_leastTurned cX3_leastTurned 6 (some .long), Cond.methodLink RX3 46 Lib.MathLoose.min_long.x, Cond.static Lib.MathLoose.min_long.x, Cond.code Lib.MathLoose.min_long.x Lib.MathLoose.min_long.code 4 (some .long), Cond.methodLink RX3 42 yX3_turned, Cond.static yX3_turned, Cond.code yX3_turned cX3_turned 6 (some .long), Cond.constantLong RX3 40 (2863311530), Cond.methodLink RX3 33 yX3_reversed, Cond.static yX3_reversed, Cond.code yX3_reversed cX3_reversed 6 (some .long), Cond.methodLink RX3 37 yX3_opposite, Cond.static yX3_opposite, Cond.code yX3_opposite cX3_opposite 3 (some .long)]
def wsX6_best : List Cond := .code yX6_best cX6_best 4 (some .int) :: ((wsX6_best_r1 ++ (wsX6_best_r2 ++ wsX6_best_r3)) ++ wsX00 ++ wsX60)
def wsX6_count : List Cond := .code yX6_count cX6_count 3 (some .int) :: ([.fieldLink RX6 38 "CancelRows" "rows" "I", .fieldLink RX6 19 "CancelRows" "sheets" "[LCancelRows$Sheet;", .methodLink RX6 42 yX6_within, .static yX6_within, .initialized RX6, .code yX6_within cX6_within 3 (some .boolean), .methodLink RX6 195 yX2_size, .instanceMethod yX2_size, .selects RX2 yX2_size yX2_size, .initialized RX2, .code yX2_size cX2_size 1 (some .int), .fieldLink RX2 19 "CancelRows$Sheet" "cells" "[I"] ++ wsX60 ++ wsX20)
def wsX7_init : List Cond := .code yX7_init cX7_init 1 none :: ([.methodLink RX7 1 objectInit, .instanceMethod objectInit, .code objectInit ⟨#[0xb1]⟩ 1 none, .arrayClass .int, .fieldLink RX7 7 "CancelRowsModel" "lengths" "[I", .arrayClass .long, .fieldLink RX7 13 "CancelRowsModel" "numbers" "[J", .fieldLink RX7 17 "CancelRowsModel" "lanes" "[I", .fieldLink RX7 20 "CancelRowsModel" "sizes" "[I", .fieldLink RX7 23 "CancelRowsModel" "cells" "[I", .fieldLink RX7 26 "CancelRowsModel" "found" "[J", .fieldLink RX7 29 "CancelRowsModel" "known" "I", .fieldLink RX7 33 "CancelRowsModel" "pairRow" "[I", .fieldLink RX7 36 "CancelRowsModel" "leastRow" "[I", .fieldLink RX7 39 "CancelRowsModel" "sums" "[I", .arrayClass .boolean, .fieldLink RX7 42 "CancelRowsModel" "isFound" "[Z", .fieldLink RX7 46 "CancelRowsModel" "bestRow" "[I"] ++ wsX70)
def wsX7_in : List Cond := .code yX7_in cX7_in 6 (some .boolean) :: ([])
def wsX7_at : List Cond := .code yX7_at cX7_at 3 (some .int) :: ([])
def wsX7_is : List Cond := .code yX7_is cX7_is 2 (some .boolean) :: ([.fieldLink RX7 49 "CancelRowsModel" "many" "I", .methodLink RX7 52 yX7_in, .static yX7_in, .initialized RX7, .code yX7_in cX7_in 6 (some .boolean)] ++ wsX70)
def wsX7_added : List Cond := .code yX7_added cX7_added 4 (some .int) :: ([.fieldLink RX7 7 "CancelRowsModel" "lengths" "[I", .fieldLink RX7 49 "CancelRowsModel" "many" "I", .fieldLink RX7 13 "CancelRowsModel" "numbers" "[J"] ++ wsX70)
def wsX7_row : List Cond := .code yX7_row cX7_row 4 (some .int) :: ([.constantLong RX7 56 (32), .fieldLink RX7 49 "CancelRowsModel" "many" "I", .methodLink RX7 52 yX7_in, .static yX7_in, .initialized RX7, .code yX7_in cX7_in 6 (some .boolean), .methodLink RX7 58 yX7_added, .instanceMethod yX7_added, .selects RX7 yX7_added yX7_added, .code yX7_added cX7_added 4 (some .int), .fieldLink RX7 7 "CancelRowsModel" "lengths" "[I", .fieldLink RX7 13 "CancelRowsModel" "numbers" "[J"] ++ wsX70)
def wsX7_sheet : List Cond := .code yX7_sheet cX7_sheet 5 (some .int) :: ([.constantLong RX7 62 (3), .constantLong RX7 64 (2), .fieldLink RX7 17 "CancelRowsModel" "lanes" "[I", .fieldLink RX7 20 "CancelRowsModel" "sizes" "[I", .fieldLink RX7 23 "CancelRowsModel" "cells" "[I", .methodLink RX7 52 yX7_in, .static yX7_in, .initialized RX7, .code yX7_in cX7_in 6 (some .boolean)] ++ wsX70)
def wsX7_lay : List Cond := .code yX7_lay cX7_lay 4 (some .int) :: ([.constantLong RX7 62 (3), .fieldLink RX7 17 "CancelRowsModel" "lanes" "[I", .fieldLink RX7 20 "CancelRowsModel" "sizes" "[I", .fieldLink RX7 23 "CancelRowsModel" "cells" "[I", .methodLink RX7 52 yX7_in, .static yX7_in, .initialized RX7, .code yX7_in cX7_in 6 (some .boolean)] ++ wsX70)
def wsX7_draw : List Cond := .code yX7_draw cX7_draw 9 (some .int) :: ([.constantLong RX7 62 (3), .constantLong RX7 64 (2), .constantLong RX7 56 (32), .fieldLink RX7 17 "CancelRowsModel" "lanes" "[I", .fieldLink RX7 20 "CancelRowsModel" "sizes" "[I", .fieldLink RX7 23 "CancelRowsModel" "cells" "[I", .fieldLink RX7 49 "CancelRowsModel" "many" "I", .methodLink RX7 52 yX7_in, .static yX7_in, .initialized RX7, .code yX7_in cX7_in 6 (some .boolean), .methodLink RX7 58 yX7_added, .instanceMethod yX7_added, .selects RX7 yX7_added yX7_added, .code yX7_added cX7_added 4 (some .int), .fieldLink RX7 7 "CancelRowsModel" "lengths" "[I", .fieldLink RX7 13 "CancelRowsModel" "numbers" "[J"] ++ wsX70)
def wsX7_drop : List Cond := .code yX7_drop cX7_drop 1 (some .int) :: ([.fieldLink RX7 49 "CancelRowsModel" "many" "I"] ++ wsX70)
def wsX7_length : List Cond := .code yX7_length cX7_length 2 (some .int) :: ([.fieldLink RX7 7 "CancelRowsModel" "lengths" "[I", .methodLink RX7 66 yX7_is, .instanceMethod yX7_is, .selects RX7 yX7_is yX7_is, .initialized RX7, .code yX7_is cX7_is 2 (some .boolean), .fieldLink RX7 49 "CancelRowsModel" "many" "I", .methodLink RX7 52 yX7_in, .static yX7_in, .code yX7_in cX7_in 6 (some .boolean)] ++ wsX70)
def wsX7_place : List Cond := .code yX7_place cX7_place 3 (some .int) :: ([.fieldLink RX7 7 "CancelRowsModel" "lengths" "[I", .fieldLink RX7 13 "CancelRowsModel" "numbers" "[J", .methodLink RX7 66 yX7_is, .instanceMethod yX7_is, .selects RX7 yX7_is yX7_is, .initialized RX7, .code yX7_is cX7_is 2 (some .boolean), .fieldLink RX7 49 "CancelRowsModel" "many" "I", .methodLink RX7 52 yX7_in, .static yX7_in, .code yX7_in cX7_in 6 (some .boolean), .methodLink RX7 70 yX7_at, .static yX7_at, .code yX7_at cX7_at 3 (some .int)] ++ wsX70)
def wsX7_number : List Cond := .code yX7_number cX7_number 2 (some .long) :: ([.fieldLink RX7 13 "CancelRowsModel" "numbers" "[J", .constantLong RX7 74 (-1), .methodLink RX7 66 yX7_is, .instanceMethod yX7_is, .selects RX7 yX7_is yX7_is, .initialized RX7, .code yX7_is cX7_is 2 (some .boolean), .fieldLink RX7 49 "CancelRowsModel" "many" "I", .methodLink RX7 52 yX7_in, .static yX7_in, .code yX7_in cX7_in 6 (some .boolean)] ++ wsX70)
def wsX7_openOf : List Cond := .code yX7_openOf cX7_openOf 6 (some .int) :: ([.methodLink RX7 70 yX7_at, .static yX7_at, .initialized RX7, .code yX7_at cX7_at 3 (some .int)])
def wsX7_roundOf : List Cond := .code yX7_roundOf cX7_roundOf 6 (some .int) :: ([.methodLink RX7 70 yX7_at, .static yX7_at, .initialized RX7, .code yX7_at cX7_at 3 (some .int)])
def wsX7_open : List Cond := .code yX7_open cX7_open 3 (some .int) :: ([.fieldLink RX7 7 "CancelRowsModel" "lengths" "[I", .fieldLink RX7 13 "CancelRowsModel" "numbers" "[J", .methodLink RX7 66 yX7_is, .instanceMethod yX7_is, .selects RX7 yX7_is yX7_is, .initialized RX7, .code yX7_is cX7_is 2 (some .boolean), .fieldLink RX7 49 "CancelRowsModel" "many" "I", .methodLink RX7 52 yX7_in, .static yX7_in, .code yX7_in cX7_in 6 (some .boolean), .methodLink RX7 76 yX7_openOf, .static yX7_openOf, .code yX7_openOf cX7_openOf 6 (some .int), .methodLink RX7 70 yX7_at, .static yX7_at, .code yX7_at cX7_at 3 (some .int)] ++ wsX70)
def wsX7_round : List Cond := .code yX7_round cX7_round 3 (some .int) :: ([.fieldLink RX7 7 "CancelRowsModel" "lengths" "[I", .fieldLink RX7 13 "CancelRowsModel" "numbers" "[J", .methodLink RX7 66 yX7_is, .instanceMethod yX7_is, .selects RX7 yX7_is yX7_is, .initialized RX7, .code yX7_is cX7_is 2 (some .boolean), .fieldLink RX7 49 "CancelRowsModel" "many" "I", .methodLink RX7 52 yX7_in, .static yX7_in, .code yX7_in cX7_in 6 (some .boolean), .methodLink RX7 80 yX7_roundOf, .static yX7_roundOf, .code yX7_roundOf cX7_roundOf 6 (some .int), .methodLink RX7 70 yX7_at, .static yX7_at, .code yX7_at cX7_at 3 (some .int)] ++ wsX70)
def wsX7_peakOf : List Cond := .code yX7_peakOf cX7_peakOf 6 (some .int) :: ([.methodLink RX7 76 yX7_openOf, .static yX7_openOf, .initialized RX7, .code yX7_openOf cX7_openOf 6 (some .int), .methodLink RX7 70 yX7_at, .static yX7_at, .code yX7_at cX7_at 3 (some .int)])
def wsX7_energyOf : List Cond := .code yX7_energyOf cX7_energyOf 6 (some .int) :: ([.methodLink RX7 76 yX7_openOf, .static yX7_openOf, .initialized RX7, .code yX7_openOf cX7_openOf 6 (some .int), .methodLink RX7 70 yX7_at, .static yX7_at, .code yX7_at cX7_at 3 (some .int)])
def wsX7_turned : List Cond := .code yX7_turned cX7_turned 9 (some .long) :: ([.methodLink RX7 70 yX7_at, .static yX7_at, .initialized RX7, .code yX7_at cX7_at 3 (some .int)])
def wsX7_turns : List Cond := .code yX7_turns cX7_turns 12 (some .long) :: ([.fieldLink RX7 26 "CancelRowsModel" "found" "[J", .fieldLink RX7 83 "CancelRowsModel" "foundMany" "I", .methodLink RX7 86 yX7_turned, .static yX7_turned, .initialized RX7, .code yX7_turned cX7_turned 9 (some .long), .methodLink RX7 70 yX7_at, .static yX7_at, .code yX7_at cX7_at 3 (some .int)] ++ wsX70)
def wsX7_about_r1 : List Cond := [Cond.fieldLink RX7 7 "CancelRowsModel" "lengths" "[I", Cond.fieldLink RX7 13 "CancelRowsModel" "numbers" "[J", Cond.fieldLink RX7 83 "CancelRowsModel" "foundMany" "I", Cond.methodLink RX7 66 yX7_is, Cond.instanceMethod yX7_is, Cond.selects RX7 yX7_is yX7_is, Cond.initialized RX7, Cond.code yX7_is cX7_is 2 (some .boolean), Cond.fieldLink RX7 49 "CancelRowsModel" "many" "I", Cond.methodLink RX7 52 yX7_in, Cond.static yX7_in, Cond.code yX7_in cX7_in 6 (some .boolean), Cond.methodLink RX7 90 yX7_peakOf, Cond.static yX7_peakOf, Cond.code yX7_peakOf cX7_peakOf 6 (some .int), Cond.methodLink RX7 76 yX7_openOf, Cond.static yX7_openOf, Cond.code yX7_openOf cX7_openOf 6 (some .int), Cond.methodLink RX7 70 yX7_at, Cond.static yX7_at, Cond.code yX7_at cX7_at 3 (some .int), Cond.methodLink RX7 93 yX7_energyOf, Cond.static yX7_energyOf, Cond.code yX7_energyOf cX7_energyOf 6 (some .int)]
def wsX7_about_r2 : List Cond := [Cond.methodLink RX7 96 yX7_turns, Cond.instanceMethod yX7_turns, Cond.selects RX7 yX7_turns yX7_turns, Cond.code yX7_turns cX7_turns 12 (some .long), Cond.fieldLink RX7 26 "CancelRowsModel" "found" "[J", Cond.methodLink RX7 86 yX7_turned, Cond.static yX7_turned, Cond.code yX7_turned cX7_turned 9 (some .long)]
def wsX7_about : List Cond := .code yX7_about cX7_about 9 (some .int) :: ((wsX7_about_r1 ++ wsX7_about_r2) ++ wsX70)
def wsX7_least : List Cond := .code yX7_least cX7_least 2 (some .long) :: ([.fieldLink RX7 7 "CancelRowsModel" "lengths" "[I", .fieldLink RX7 13 "CancelRowsModel" "numbers" "[J", .constantLong RX7 74 (-1), .methodLink RX7 66 yX7_is, .instanceMethod yX7_is, .selects RX7 yX7_is yX7_is, .initialized RX7, .code yX7_is cX7_is 2 (some .boolean), .fieldLink RX7 49 "CancelRowsModel" "many" "I", .methodLink RX7 52 yX7_in, .static yX7_in, .code yX7_in cX7_in 6 (some .boolean), .methodLink RX7 96 yX7_turns, .instanceMethod yX7_turns, .selects RX7 yX7_turns yX7_turns, .code yX7_turns cX7_turns 12 (some .long), .fieldLink RX7 26 "CancelRowsModel" "found" "[J", .fieldLink RX7 83 "CancelRowsModel" "foundMany" "I", .methodLink RX7 86 yX7_turned, .static yX7_turned, .code yX7_turned cX7_turned 9 (some .long), .methodLink RX7 70 yX7_at, .static yX7_at, .code yX7_at cX7_at 3 (some .int)] ++ wsX70)
def wsX7_turn : List Cond := .code yX7_turn cX7_turn 3 (some .int) :: ([.constantLong RX7 64 (2), .fieldLink RX7 49 "CancelRowsModel" "many" "I", .fieldLink RX7 7 "CancelRowsModel" "lengths" "[I", .fieldLink RX7 13 "CancelRowsModel" "numbers" "[J", .methodLink RX7 66 yX7_is, .instanceMethod yX7_is, .selects RX7 yX7_is yX7_is, .initialized RX7, .code yX7_is cX7_is 2 (some .boolean), .methodLink RX7 52 yX7_in, .static yX7_in, .code yX7_in cX7_in 6 (some .boolean), .methodLink RX7 86 yX7_turned, .static yX7_turned, .code yX7_turned cX7_turned 9 (some .long), .methodLink RX7 70 yX7_at, .static yX7_at, .code yX7_at cX7_at 3 (some .int), .methodLink RX7 58 yX7_added, .instanceMethod yX7_added, .selects RX7 yX7_added yX7_added, .code yX7_added cX7_added 4 (some .int)] ++ wsX70)
def wsX7_areLike : List Cond := .code yX7_areLike cX7_areLike 3 (some .boolean) :: ([.fieldLink RX7 7 "CancelRowsModel" "lengths" "[I", .methodLink RX7 66 yX7_is, .instanceMethod yX7_is, .selects RX7 yX7_is yX7_is, .initialized RX7, .code yX7_is cX7_is 2 (some .boolean), .fieldLink RX7 49 "CancelRowsModel" "many" "I", .methodLink RX7 52 yX7_in, .static yX7_in, .code yX7_in cX7_in 6 (some .boolean)] ++ wsX70)
def wsX7_behind : List Cond := .code yX7_behind cX7_behind 5 (some .long) :: ([])
def wsX7_put : List Cond := .code yX7_put cX7_put 4 (some .int) :: ([.fieldLink RX7 7 "CancelRowsModel" "lengths" "[I", .fieldLink RX7 49 "CancelRowsModel" "many" "I", .fieldLink RX7 13 "CancelRowsModel" "numbers" "[J", .methodLink RX7 66 yX7_is, .instanceMethod yX7_is, .selects RX7 yX7_is yX7_is, .initialized RX7, .code yX7_is cX7_is 2 (some .boolean), .methodLink RX7 52 yX7_in, .static yX7_in, .code yX7_in cX7_in 6 (some .boolean), .methodLink RX7 100 yX7_behind, .static yX7_behind, .code yX7_behind cX7_behind 5 (some .long), .methodLink RX7 58 yX7_added, .instanceMethod yX7_added, .selects RX7 yX7_added yX7_added, .code yX7_added cX7_added 4 (some .int)] ++ wsX70)
def wsX7_weave : List Cond := .code yX7_weave cX7_weave 7 (some .int) :: ([.fieldLink RX7 7 "CancelRowsModel" "lengths" "[I", .fieldLink RX7 49 "CancelRowsModel" "many" "I", .fieldLink RX7 13 "CancelRowsModel" "numbers" "[J", .methodLink RX7 104 yX7_areLike, .instanceMethod yX7_areLike, .selects RX7 yX7_areLike yX7_areLike, .initialized RX7, .code yX7_areLike cX7_areLike 3 (some .boolean), .methodLink RX7 66 yX7_is, .instanceMethod yX7_is, .selects RX7 yX7_is yX7_is, .code yX7_is cX7_is 2 (some .boolean), .methodLink RX7 52 yX7_in, .static yX7_in, .code yX7_in cX7_in 6 (some .boolean), .methodLink RX7 58 yX7_added, .instanceMethod yX7_added, .selects RX7 yX7_added yX7_added, .code yX7_added cX7_added 4 (some .int)] ++ wsX70)
def wsX7_times : List Cond := .code yX7_times cX7_times 7 (some .int) :: ([.fieldLink RX7 7 "CancelRowsModel" "lengths" "[I", .fieldLink RX7 49 "CancelRowsModel" "many" "I", .fieldLink RX7 13 "CancelRowsModel" "numbers" "[J", .methodLink RX7 66 yX7_is, .instanceMethod yX7_is, .selects RX7 yX7_is yX7_is, .initialized RX7, .code yX7_is cX7_is 2 (some .boolean), .methodLink RX7 52 yX7_in, .static yX7_in, .code yX7_in cX7_in 6 (some .boolean), .methodLink RX7 70 yX7_at, .static yX7_at, .code yX7_at cX7_at 3 (some .int), .methodLink RX7 58 yX7_added, .instanceMethod yX7_added, .selects RX7 yX7_added yX7_added, .code yX7_added cX7_added 4 (some .int)] ++ wsX70)
def wsX7_cancelOf : List Cond := .code yX7_cancelOf cX7_cancelOf 6 (some .int) :: ([.methodLink RX7 76 yX7_openOf, .static yX7_openOf, .initialized RX7, .code yX7_openOf cX7_openOf 6 (some .int), .methodLink RX7 70 yX7_at, .static yX7_at, .code yX7_at cX7_at 3 (some .int)])
def wsX7_cancels : List Cond := .code yX7_cancels cX7_cancels 3 (some .int) :: ([.fieldLink RX7 7 "CancelRowsModel" "lengths" "[I", .fieldLink RX7 13 "CancelRowsModel" "numbers" "[J", .methodLink RX7 104 yX7_areLike, .instanceMethod yX7_areLike, .selects RX7 yX7_areLike yX7_areLike, .initialized RX7, .code yX7_areLike cX7_areLike 3 (some .boolean), .methodLink RX7 66 yX7_is, .instanceMethod yX7_is, .selects RX7 yX7_is yX7_is, .code yX7_is cX7_is 2 (some .boolean), .fieldLink RX7 49 "CancelRowsModel" "many" "I", .methodLink RX7 52 yX7_in, .static yX7_in, .code yX7_in cX7_in 6 (some .boolean), .methodLink RX7 108 yX7_cancelOf, .static yX7_cancelOf, .code yX7_cancelOf cX7_cancelOf 6 (some .int), .methodLink RX7 76 yX7_openOf, .static yX7_openOf, .code yX7_openOf cX7_openOf 6 (some .int), .methodLink RX7 70 yX7_at, .static yX7_at, .code yX7_at cX7_at 3 (some .int)] ++ wsX70)
def wsX7_four : List Cond := .code yX7_four cX7_four 7 (some .int) :: ([.fieldLink RX7 7 "CancelRowsModel" "lengths" "[I", .fieldLink RX7 13 "CancelRowsModel" "numbers" "[J", .methodLink RX7 104 yX7_areLike, .instanceMethod yX7_areLike, .selects RX7 yX7_areLike yX7_areLike, .initialized RX7, .code yX7_areLike cX7_areLike 3 (some .boolean), .methodLink RX7 66 yX7_is, .instanceMethod yX7_is, .selects RX7 yX7_is yX7_is, .code yX7_is cX7_is 2 (some .boolean), .fieldLink RX7 49 "CancelRowsModel" "many" "I", .methodLink RX7 52 yX7_in, .static yX7_in, .code yX7_in cX7_in 6 (some .boolean), .methodLink RX7 80 yX7_roundOf, .static yX7_roundOf, .code yX7_roundOf cX7_roundOf 6 (some .int), .methodLink RX7 70 yX7_at, .static yX7_at, .code yX7_at cX7_at 3 (some .int)] ++ wsX70)
def wsX7_opposite : List Cond := .code yX7_opposite cX7_opposite 3 (some .long) :: ([])
def wsX7_doubled_r1 : List Cond := [Cond.fieldLink RX7 7 "CancelRowsModel" "lengths" "[I", Cond.fieldLink RX7 49 "CancelRowsModel" "many" "I", Cond.fieldLink RX7 13 "CancelRowsModel" "numbers" "[J", Cond.methodLink RX7 104 yX7_areLike, Cond.instanceMethod yX7_areLike, Cond.selects RX7 yX7_areLike yX7_areLike, Cond.initialized RX7, Cond.code yX7_areLike cX7_areLike 3 (some .boolean), Cond.methodLink RX7 66 yX7_is, Cond.instanceMethod yX7_is, Cond.selects RX7 yX7_is yX7_is, Cond.code yX7_is cX7_is 2 (some .boolean), Cond.methodLink RX7 52 yX7_in, Cond.static yX7_in, Cond.code yX7_in cX7_in 6 (some .boolean), Cond.methodLink RX7 100 yX7_behind, Cond.static yX7_behind, Cond.code yX7_behind cX7_behind 5 (some .long), Cond.methodLink RX7 58 yX7_added, Cond.instanceMethod yX7_added, Cond.selects RX7 yX7_added yX7_added, Cond.code yX7_added cX7_added 4 (some .int), Cond.methodLink RX7 112 yX7_opposite, Cond.static yX7_opposite]
def wsX7_doubled_r2 : List Cond := [Cond.code yX7_opposite cX7_opposite 3 (some .long)]
def wsX7_doubled : List Cond := .code yX7_doubled cX7_doubled 10 (some .int) :: ((wsX7_doubled_r1 ++ wsX7_doubled_r2) ++ wsX70)
def wsX7_ofBits : List Cond := .code yX7_ofBits cX7_ofBits 6 (some .long) :: ([])
def wsX7_told_r1 : List Cond := [Cond.constantLong RX7 56 (32), Cond.constantLong RX7 115 (2534680), Cond.constantLong RX7 117 (172), Cond.constantLong RX7 119 (2523879), Cond.constantLong RX7 121 (131), Cond.fieldLink RX7 49 "CancelRowsModel" "many" "I", Cond.methodLink RX7 52 yX7_in, Cond.static yX7_in, Cond.initialized RX7, Cond.code yX7_in cX7_in 6 (some .boolean), Cond.methodLink RX7 123 yX7_ofBits, Cond.static yX7_ofBits, Cond.code yX7_ofBits cX7_ofBits 6 (some .long), Cond.methodLink RX7 100 yX7_behind, Cond.static yX7_behind, Cond.code yX7_behind cX7_behind 5 (some .long), Cond.methodLink RX7 112 yX7_opposite, Cond.static yX7_opposite, Cond.code yX7_opposite cX7_opposite 3 (some .long), Cond.methodLink RX7 58 yX7_added, Cond.instanceMethod yX7_added, Cond.selects RX7 yX7_added yX7_added, Cond.code yX7_added cX7_added 4 (some .int), Cond.fieldLink RX7 7 "CancelRowsModel" "lengths" "[I"]
def wsX7_told_r2 : List Cond := [Cond.fieldLink RX7 13 "CancelRowsModel" "numbers" "[J"]
def wsX7_told : List Cond := .code yX7_told cX7_told 11 (some .int) :: ((wsX7_told_r1 ++ wsX7_told_r2) ++ wsX70)
def wsX7_rootOf : List Cond := .code yX7_rootOf cX7_rootOf 3 (some .int) :: ([])
def wsX7_ways : List Cond := .code yX7_ways cX7_ways 10 (some .int) :: ([.methodLink RX7 132 yX7_rootOf, .static yX7_rootOf, .initialized RX7, .code yX7_rootOf cX7_rootOf 3 (some .int)])
def wsX7_why : List Cond := .code yX7_why cX7_why 4 (some .int) :: ([.constantLong RX7 126 (1000000), .methodLink RX7 52 yX7_in, .static yX7_in, .initialized RX7, .code yX7_in cX7_in 6 (some .boolean), .methodLink RX7 128 yX7_ways, .static yX7_ways, .code yX7_ways cX7_ways 10 (some .int), .methodLink RX7 132 yX7_rootOf, .static yX7_rootOf, .code yX7_rootOf cX7_rootOf 3 (some .int)])
def wsX7_squares : List Cond := .code yX7_squares cX7_squares 3 (some .int) :: ([.constantLong RX7 136 (4), .constantLong RX7 138 (1000), .constantLong RX7 126 (1000000), .methodLink RX7 52 yX7_in, .static yX7_in, .initialized RX7, .code yX7_in cX7_in 6 (some .boolean), .methodLink RX7 128 yX7_ways, .static yX7_ways, .code yX7_ways cX7_ways 10 (some .int), .methodLink RX7 132 yX7_rootOf, .static yX7_rootOf, .code yX7_rootOf cX7_rootOf 3 (some .int)])
def wsX7_isLeast : List Cond := .code yX7_isLeast cX7_isLeast 12 (some .boolean) :: ([.methodLink RX7 86 yX7_turned, .static yX7_turned, .initialized RX7, .code yX7_turned cX7_turned 9 (some .long), .methodLink RX7 70 yX7_at, .static yX7_at, .code yX7_at cX7_at 3 (some .int)])
def wsX7_know : List Cond := .code yX7_know cX7_know 7 none :: ([.fieldLink RX7 29 "CancelRowsModel" "known" "I", .fieldLink RX7 39 "CancelRowsModel" "sums" "[I", .fieldLink RX7 140 "CancelRowsModel" "pairMany" "I", .fieldLink RX7 143 "CancelRowsModel" "leastMany" "I", .fieldLink RX7 33 "CancelRowsModel" "pairRow" "[I", .fieldLink RX7 36 "CancelRowsModel" "leastRow" "[I", .methodLink RX7 76 yX7_openOf, .static yX7_openOf, .initialized RX7, .code yX7_openOf cX7_openOf 6 (some .int), .methodLink RX7 70 yX7_at, .static yX7_at, .code yX7_at cX7_at 3 (some .int), .methodLink RX7 146 yX7_isLeast, .static yX7_isLeast, .code yX7_isLeast cX7_isLeast 12 (some .boolean), .methodLink RX7 86 yX7_turned, .static yX7_turned, .code yX7_turned cX7_turned 9 (some .long)] ++ wsX70)
def wsX7_pairs_r1 : List Cond := [Cond.constantLong RX7 150 (8), Cond.constantLong RX7 62 (3), Cond.fieldLink RX7 140 "CancelRowsModel" "pairMany" "I", Cond.fieldLink RX7 143 "CancelRowsModel" "leastMany" "I", Cond.fieldLink RX7 33 "CancelRowsModel" "pairRow" "[I", Cond.methodLink RX7 52 yX7_in, Cond.static yX7_in, Cond.initialized RX7, Cond.code yX7_in cX7_in 6 (some .boolean), Cond.methodLink RX7 152 yX7_know, Cond.instanceMethod yX7_know, Cond.selects RX7 yX7_know yX7_know, Cond.code yX7_know cX7_know 7 none, Cond.fieldLink RX7 29 "CancelRowsModel" "known" "I", Cond.fieldLink RX7 39 "CancelRowsModel" "sums" "[I", Cond.fieldLink RX7 36 "CancelRowsModel" "leastRow" "[I", Cond.methodLink RX7 76 yX7_openOf, Cond.static yX7_openOf, Cond.code yX7_openOf cX7_openOf 6 (some .int), Cond.methodLink RX7 70 yX7_at, Cond.static yX7_at, Cond.code yX7_at cX7_at 3 (some .int), Cond.methodLink RX7 146 yX7_isLeast, Cond.static yX7_isLeast]
def wsX7_pairs_r2 : List Cond := [Cond.code yX7_isLeast cX7_isLeast 12 (some .boolean), Cond.methodLink RX7 86 yX7_turned, Cond.static yX7_turned, Cond.code yX7_turned cX7_turned 9 (some .long)]
def wsX7_pairs : List Cond := .code yX7_pairs cX7_pairs 3 (some .int) :: ((wsX7_pairs_r1 ++ wsX7_pairs_r2) ++ wsX70)
def wsX7_pair_r1 : List Cond := [Cond.constantLong RX7 150 (8), Cond.fieldLink RX7 143 "CancelRowsModel" "leastMany" "I", Cond.fieldLink RX7 36 "CancelRowsModel" "leastRow" "[I", Cond.methodLink RX7 52 yX7_in, Cond.static yX7_in, Cond.initialized RX7, Cond.code yX7_in cX7_in 6 (some .boolean), Cond.methodLink RX7 152 yX7_know, Cond.instanceMethod yX7_know, Cond.selects RX7 yX7_know yX7_know, Cond.code yX7_know cX7_know 7 none, Cond.fieldLink RX7 29 "CancelRowsModel" "known" "I", Cond.fieldLink RX7 39 "CancelRowsModel" "sums" "[I", Cond.fieldLink RX7 140 "CancelRowsModel" "pairMany" "I", Cond.fieldLink RX7 33 "CancelRowsModel" "pairRow" "[I", Cond.methodLink RX7 76 yX7_openOf, Cond.static yX7_openOf, Cond.code yX7_openOf cX7_openOf 6 (some .int), Cond.methodLink RX7 70 yX7_at, Cond.static yX7_at, Cond.code yX7_at cX7_at 3 (some .int), Cond.methodLink RX7 146 yX7_isLeast, Cond.static yX7_isLeast, Cond.code yX7_isLeast cX7_isLeast 12 (some .boolean)]
def wsX7_pair_r2 : List Cond := [Cond.methodLink RX7 86 yX7_turned, Cond.static yX7_turned, Cond.code yX7_turned cX7_turned 9 (some .long)]
def wsX7_pair : List Cond := .code yX7_pair cX7_pair 3 (some .int) :: ((wsX7_pair_r1 ++ wsX7_pair_r2) ++ wsX70)
def wsX7_search_r1 : List Cond := [Cond.fieldLink RX7 42 "CancelRowsModel" "isFound" "[Z", Cond.constant RX7 156 (1000000), Cond.fieldLink RX7 46 "CancelRowsModel" "bestRow" "[I", Cond.methodLink RX7 90 yX7_peakOf, Cond.static yX7_peakOf, Cond.initialized RX7, Cond.code yX7_peakOf cX7_peakOf 6 (some .int), Cond.methodLink RX7 76 yX7_openOf, Cond.static yX7_openOf, Cond.code yX7_openOf cX7_openOf 6 (some .int), Cond.methodLink RX7 70 yX7_at, Cond.static yX7_at, Cond.code yX7_at cX7_at 3 (some .int), Cond.methodLink RX7 93 yX7_energyOf, Cond.static yX7_energyOf, Cond.code yX7_energyOf cX7_energyOf 6 (some .int), Cond.methodLink RX7 96 yX7_turns, Cond.instanceMethod yX7_turns, Cond.selects RX7 yX7_turns yX7_turns, Cond.code yX7_turns cX7_turns 12 (some .long), Cond.fieldLink RX7 26 "CancelRowsModel" "found" "[J", Cond.fieldLink RX7 83 "CancelRowsModel" "foundMany" "I", Cond.methodLink RX7 86 yX7_turned, Cond.static yX7_turned]
def wsX7_search_r2 : List Cond := [Cond.code yX7_turned cX7_turned 9 (some .long)]
def wsX7_search : List Cond := .code yX7_search cX7_search 7 none :: ((wsX7_search_r1 ++ wsX7_search_r2) ++ wsX70)
def wsX7_best_r1 : List Cond := [Cond.constantLong RX7 157 (14), Cond.constantLong RX7 62 (3), Cond.fieldLink RX7 42 "CancelRowsModel" "isFound" "[Z", Cond.fieldLink RX7 46 "CancelRowsModel" "bestRow" "[I", Cond.methodLink RX7 52 yX7_in, Cond.static yX7_in, Cond.initialized RX7, Cond.code yX7_in cX7_in 6 (some .boolean), Cond.methodLink RX7 159 yX7_search, Cond.instanceMethod yX7_search, Cond.selects RX7 yX7_search yX7_search, Cond.code yX7_search cX7_search 7 none, Cond.constant RX7 156 (1000000), Cond.methodLink RX7 90 yX7_peakOf, Cond.static yX7_peakOf, Cond.code yX7_peakOf cX7_peakOf 6 (some .int), Cond.methodLink RX7 76 yX7_openOf, Cond.static yX7_openOf, Cond.code yX7_openOf cX7_openOf 6 (some .int), Cond.methodLink RX7 70 yX7_at, Cond.static yX7_at, Cond.code yX7_at cX7_at 3 (some .int), Cond.methodLink RX7 93 yX7_energyOf, Cond.static yX7_energyOf]
def wsX7_best_r2 : List Cond := [Cond.code yX7_energyOf cX7_energyOf 6 (some .int), Cond.methodLink RX7 96 yX7_turns, Cond.instanceMethod yX7_turns, Cond.selects RX7 yX7_turns yX7_turns, Cond.code yX7_turns cX7_turns 12 (some .long), Cond.fieldLink RX7 26 "CancelRowsModel" "found" "[J", Cond.fieldLink RX7 83 "CancelRowsModel" "foundMany" "I", Cond.methodLink RX7 86 yX7_turned, Cond.static yX7_turned, Cond.code yX7_turned cX7_turned 9 (some .long)]
def wsX7_best : List Cond := .code yX7_best cX7_best 4 (some .int) :: ((wsX7_best_r1 ++ wsX7_best_r2) ++ wsX70)
def wsX7_count : List Cond := .code yX7_count cX7_count 2 (some .int) :: ([.fieldLink RX7 49 "CancelRowsModel" "many" "I", .fieldLink RX7 17 "CancelRowsModel" "lanes" "[I", .fieldLink RX7 20 "CancelRowsModel" "sizes" "[I"] ++ wsX70)
def wsJ9_abs_0f7a4 : List Cond := .code yJ9_abs_0f7a4 cJ9_abs_0f7a4 1 (some .int) :: ([])
def wsJ9_max_7cf53 : List Cond := .code yJ9_max_7cf53 cJ9_max_7cf53 2 (some .int) :: ([])
def wsJ9_min_7cf53 : List Cond := .code yJ9_min_7cf53 cJ9_min_7cf53 2 (some .int) :: ([])
def wsJ9_min_f86c9 : List Cond := .code yJ9_min_f86c9 cJ9_min_f86c9 4 (some .long) :: ([])
def wsL_law_r1 : List Cond := [Cond.classLink RL 7 RX6, Cond.instantiable RX6 7, Cond.initialized RX6, Cond.classLink RL 10 RX7, Cond.instantiable RX7 16, Cond.initialized RX7, Cond.constantLong RL 13 (4294967295), Cond.methodLink RL 9 yX6_init, Cond.instanceMethod yX6_init, Cond.code yX6_init cX6_init 1 none, Cond.methodLink RX6 1 objectInit, Cond.instanceMethod objectInit, Cond.code objectInit ⟨#[0xb1]⟩ 1 none, Cond.arrayClass .int, Cond.fieldLink RX6 9 "CancelRows" "lengths" "[I", Cond.arrayClass .long, Cond.fieldLink RX6 13 "CancelRows" "numbers" "[J", Cond.classLink RX6 17 RX2, Cond.fieldLink RX6 19 "CancelRows" "sheets" "[LCancelRows$Sheet;", Cond.classLink RX6 23 RX1, Cond.fieldLink RX6 25 "CancelRows" "pairLists" "[LCancelRows$PairList;", Cond.classLink RX6 29 RX0, Cond.fieldLink RX6 31 "CancelRows" "bestByPeak" "[LCancelRows$BestRows;", Cond.fieldLink RX6 35 "CancelRows" "bestByEnergy" "[LCancelRows$BestRows;"]
def wsL_law_r2 : List Cond := [Cond.fieldLink RX6 38 "CancelRows" "rows" "I", Cond.methodLink RL 12 yX7_init, Cond.instanceMethod yX7_init, Cond.code yX7_init cX7_init 1 none, Cond.methodLink RX7 1 objectInit, Cond.fieldLink RX7 7 "CancelRowsModel" "lengths" "[I", Cond.fieldLink RX7 13 "CancelRowsModel" "numbers" "[J", Cond.fieldLink RX7 17 "CancelRowsModel" "lanes" "[I", Cond.fieldLink RX7 20 "CancelRowsModel" "sizes" "[I", Cond.fieldLink RX7 23 "CancelRowsModel" "cells" "[I", Cond.fieldLink RX7 26 "CancelRowsModel" "found" "[J", Cond.fieldLink RX7 29 "CancelRowsModel" "known" "I", Cond.fieldLink RX7 33 "CancelRowsModel" "pairRow" "[I", Cond.fieldLink RX7 36 "CancelRowsModel" "leastRow" "[I", Cond.fieldLink RX7 39 "CancelRowsModel" "sums" "[I", Cond.arrayClass .boolean, Cond.fieldLink RX7 42 "CancelRowsModel" "isFound" "[Z", Cond.fieldLink RX7 46 "CancelRowsModel" "bestRow" "[I", Cond.methodLink RL 15 yX6_row, Cond.instanceMethod yX6_row, Cond.selects RX6 yX6_row yX6_row, Cond.code yX6_row cX6_row 4 (some .int), Cond.methodLink RX6 42 yX6_within, Cond.static yX6_within]
def wsL_law_r3 : List Cond := [Cond.code yX6_within cX6_within 3 (some .boolean), Cond.methodLink RX6 46 yX3_mask, Cond.static yX3_mask, Cond.initialized RX3, Cond.code yX3_mask cX3_mask 1 (some .long), Cond.methodLink RX6 52 yX6_fits, Cond.instanceMethod yX6_fits, Cond.selects RX6 yX6_fits yX6_fits, Cond.code yX6_fits cX6_fits 3 (some .boolean), Cond.methodLink RX6 56 yX6_added, Cond.instanceMethod yX6_added, Cond.selects RX6 yX6_added yX6_added, Cond.code yX6_added cX6_added 5 (some .int), Cond.methodLink RL 19 yX7_row, Cond.instanceMethod yX7_row, Cond.selects RX7 yX7_row yX7_row, Cond.code yX7_row cX7_row 4 (some .int), Cond.constantLong RX7 56 (32), Cond.fieldLink RX7 49 "CancelRowsModel" "many" "I", Cond.methodLink RX7 52 yX7_in, Cond.static yX7_in, Cond.code yX7_in cX7_in 6 (some .boolean), Cond.methodLink RX7 58 yX7_added, Cond.instanceMethod yX7_added]
def wsL_law_r4 : List Cond := [Cond.selects RX7 yX7_added yX7_added, Cond.code yX7_added cX7_added 4 (some .int), Cond.methodLink RL 20 yX6_sheet, Cond.instanceMethod yX6_sheet, Cond.selects RX6 yX6_sheet yX6_sheet, Cond.code yX6_sheet cX6_sheet 4 (some .int), Cond.instantiable RX2 2, Cond.initialized RX2, Cond.methodLink RX6 60 yX6_isSheet, Cond.static yX6_isSheet, Cond.code yX6_isSheet cX6_isSheet 1 (some .boolean), Cond.methodLink RX6 64 yX6_isLane, Cond.static yX6_isLane, Cond.code yX6_isLane cX6_isLane 1 (some .boolean), Cond.methodLink RX6 67 yX2_init, Cond.instanceMethod yX2_init, Cond.code yX2_init cX2_init 3 none, Cond.methodLink RX2 1 objectInit, Cond.fieldLink RX2 7 "CancelRows$Sheet" "lane" "I", Cond.methodLink RX2 13 Lib.Math.max.name, Cond.static Lib.Math.max.name, Cond.initialized "java/lang/Math", Cond.code Lib.Math.max.name Lib.Math.max.code 2 (some .int), Cond.fieldLink RX2 19 "CancelRows$Sheet" "cells" "[I"]
def wsL_law_r5 : List Cond := [Cond.methodLink RL 24 yX7_sheet, Cond.instanceMethod yX7_sheet, Cond.selects RX7 yX7_sheet yX7_sheet, Cond.code yX7_sheet cX7_sheet 5 (some .int), Cond.constantLong RX7 62 (3), Cond.constantLong RX7 64 (2), Cond.methodLink RL 25 yX6_lay, Cond.instanceMethod yX6_lay, Cond.selects RX6 yX6_lay yX6_lay, Cond.code yX6_lay cX6_lay 5 (some .int), Cond.methodLink RX6 70 yX2_has, Cond.instanceMethod yX2_has, Cond.selects RX2 yX2_has yX2_has, Cond.code yX2_has cX2_has 2 (some .boolean), Cond.methodLink RX6 73 yX2_write, Cond.instanceMethod yX2_write, Cond.selects RX2 yX2_write yX2_write, Cond.code yX2_write cX2_write 3 none, Cond.methodLink RX2 23 yX2_has, Cond.methodLink RX2 27 yX2_cut, Cond.instanceMethod yX2_cut, Cond.selects RX2 yX2_cut yX2_cut, Cond.code yX2_cut cX2_cut 2 (some .int), Cond.methodLink RL 28 yX7_lay]
def wsL_law_r6 : List Cond := [Cond.instanceMethod yX7_lay, Cond.selects RX7 yX7_lay yX7_lay, Cond.code yX7_lay cX7_lay 4 (some .int), Cond.methodLink RL 29 yX6_draw, Cond.instanceMethod yX6_draw, Cond.selects RX6 yX6_draw yX6_draw, Cond.code yX6_draw cX6_draw 10 (some .int), Cond.fieldLink RX6 76 "CancelRows$Sheet" "lane" "I", Cond.methodLink RX6 79 yX2_read, Cond.instanceMethod yX2_read, Cond.selects RX2 yX2_read yX2_read, Cond.code yX2_read cX2_read 2 (some .int), Cond.methodLink RL 33 yX7_draw, Cond.instanceMethod yX7_draw, Cond.selects RX7 yX7_draw yX7_draw, Cond.code yX7_draw cX7_draw 9 (some .int), Cond.methodLink RL 34 yX6_drop, Cond.instanceMethod yX6_drop, Cond.selects RX6 yX6_drop yX6_drop, Cond.code yX6_drop cX6_drop 1 (some .int), Cond.methodLink RL 38 yX7_drop, Cond.instanceMethod yX7_drop, Cond.selects RX7 yX7_drop yX7_drop, Cond.code yX7_drop cX7_drop 1 (some .int)]
def wsL_law_r7 : List Cond := [Cond.methodLink RL 39 yX6_length, Cond.instanceMethod yX6_length, Cond.selects RX6 yX6_length yX6_length, Cond.code yX6_length cX6_length 2 (some .int), Cond.methodLink RX6 83 yX6_isRow, Cond.instanceMethod yX6_isRow, Cond.selects RX6 yX6_isRow yX6_isRow, Cond.code yX6_isRow cX6_isRow 2 (some .boolean), Cond.methodLink RL 43 yX7_length, Cond.instanceMethod yX7_length, Cond.selects RX7 yX7_length yX7_length, Cond.code yX7_length cX7_length 2 (some .int), Cond.methodLink RX7 66 yX7_is, Cond.instanceMethod yX7_is, Cond.selects RX7 yX7_is yX7_is, Cond.code yX7_is cX7_is 2 (some .boolean), Cond.methodLink RL 44 yX6_place, Cond.instanceMethod yX6_place, Cond.selects RX6 yX6_place yX6_place, Cond.code yX6_place cX6_place 3 (some .int), Cond.methodLink RX6 86 yX3_sign, Cond.static yX3_sign, Cond.code yX3_sign cX3_sign 3 (some .int), Cond.methodLink RL 48 yX7_place]
def wsL_law_r8 : List Cond := [Cond.instanceMethod yX7_place, Cond.selects RX7 yX7_place yX7_place, Cond.code yX7_place cX7_place 3 (some .int), Cond.methodLink RX7 70 yX7_at, Cond.static yX7_at, Cond.code yX7_at cX7_at 3 (some .int), Cond.methodLink RL 49 yX6_number, Cond.instanceMethod yX6_number, Cond.selects RX6 yX6_number yX6_number, Cond.code yX6_number cX6_number 2 (some .long), Cond.constantLong RX6 90 (-1), Cond.methodLink RL 53 yX7_number, Cond.instanceMethod yX7_number, Cond.selects RX7 yX7_number yX7_number, Cond.code yX7_number cX7_number 2 (some .long), Cond.constantLong RX7 74 (-1), Cond.methodLink RL 54 yX6_open, Cond.instanceMethod yX6_open, Cond.selects RX6 yX6_open yX6_open, Cond.code yX6_open cX6_open 3 (some .int), Cond.methodLink RX6 92 yX3_openSum, Cond.static yX3_openSum, Cond.code yX3_openSum cX3_openSum 5 (some .int), Cond.methodLink RX3 7 yX3_mask]
def wsL_law_r9 : List Cond := [Cond.methodLink RX3 13 yJ13_bitCount_95d88, Cond.static yJ13_bitCount_95d88, Cond.initialized RJ13, Cond.code yJ13_bitCount_95d88 cJ13_bitCount_95d88 2 (some .int), Cond.constantLong RJ13 314 (6148914691236517205), Cond.constantLong RJ13 316 (3689348814741910323), Cond.constantLong RJ13 318 (1085102592571150095), Cond.methodLink RL 57 yX7_open, Cond.instanceMethod yX7_open, Cond.selects RX7 yX7_open yX7_open, Cond.code yX7_open cX7_open 3 (some .int), Cond.methodLink RX7 76 yX7_openOf, Cond.static yX7_openOf, Cond.code yX7_openOf cX7_openOf 6 (some .int), Cond.methodLink RL 58 yX6_round, Cond.instanceMethod yX6_round, Cond.selects RX6 yX6_round yX6_round, Cond.code yX6_round cX6_round 3 (some .int), Cond.methodLink RX6 96 yX3_roundSum, Cond.static yX3_roundSum, Cond.code yX3_roundSum cX3_roundSum 6 (some .int), Cond.methodLink RL 61 yX7_round, Cond.instanceMethod yX7_round, Cond.selects RX7 yX7_round yX7_round]
def wsL_law_r10 : List Cond := [Cond.code yX7_round cX7_round 3 (some .int), Cond.methodLink RX7 80 yX7_roundOf, Cond.static yX7_roundOf, Cond.code yX7_roundOf cX7_roundOf 6 (some .int), Cond.methodLink RL 62 yX6_about, Cond.instanceMethod yX6_about, Cond.selects RX6 yX6_about yX6_about, Cond.code yX6_about cX6_about 3 (some .int), Cond.methodLink RX6 99 yX3_peak, Cond.static yX3_peak, Cond.code yX3_peak cX3_peak 5 (some .int), Cond.methodLink RX3 23 Lib.Math.abs.name, Cond.static Lib.Math.abs.name, Cond.code Lib.Math.abs.name Lib.Math.abs.code 1 (some .int), Cond.methodLink RX3 29 Lib.Math.max.name, Cond.methodLink RX3 19 yX3_openSum, Cond.methodLink RX6 102 yX3_energy, Cond.static yX3_energy, Cond.code yX3_energy cX3_energy 6 (some .int), Cond.methodLink RX6 105 yX3_total, Cond.static yX3_total, Cond.code yX3_total cX3_total 3 (some .int), Cond.methodLink RX6 108 yX3_changes, Cond.static yX3_changes]
def wsL_law_r11 : List Cond := [Cond.code yX3_changes cX3_changes 3 (some .int), Cond.methodLink RX6 111 yX3_unlikeTurned, Cond.static yX3_unlikeTurned, Cond.code yX3_unlikeTurned cX3_unlikeTurned 5 (some .int), Cond.methodLink RX3 50 yX3_isNewTurned, Cond.static yX3_isNewTurned, Cond.code yX3_isNewTurned cX3_isNewTurned 7 (some .boolean), Cond.methodLink RX3 42 yX3_turned, Cond.static yX3_turned, Cond.code yX3_turned cX3_turned 6 (some .long), Cond.constantLong RX3 40 (2863311530), Cond.methodLink RX3 33 yX3_reversed, Cond.static yX3_reversed, Cond.code yX3_reversed cX3_reversed 6 (some .long), Cond.methodLink RX3 37 yX3_opposite, Cond.static yX3_opposite, Cond.code yX3_opposite cX3_opposite 3 (some .long), Cond.methodLink RL 65 yX7_about, Cond.instanceMethod yX7_about, Cond.selects RX7 yX7_about yX7_about, Cond.code yX7_about cX7_about 9 (some .int), Cond.fieldLink RX7 83 "CancelRowsModel" "foundMany" "I", Cond.methodLink RX7 90 yX7_peakOf, Cond.static yX7_peakOf]
def wsL_law_r12 : List Cond := [Cond.code yX7_peakOf cX7_peakOf 6 (some .int), Cond.methodLink RX7 93 yX7_energyOf, Cond.static yX7_energyOf, Cond.code yX7_energyOf cX7_energyOf 6 (some .int), Cond.methodLink RX7 96 yX7_turns, Cond.instanceMethod yX7_turns, Cond.selects RX7 yX7_turns yX7_turns, Cond.code yX7_turns cX7_turns 12 (some .long), Cond.methodLink RX7 86 yX7_turned, Cond.static yX7_turned, Cond.code yX7_turned cX7_turned 9 (some .long), Cond.methodLink RL 66 yX6_least, Cond.instanceMethod yX6_least, Cond.selects RX6 yX6_least yX6_least, Cond.code yX6_least cX6_least 2 (some .long), Cond.methodLink RX6 114 yX3_leastTurned, Cond.static yX3_leastTurned, Cond.code yX3_leastTurned cX3_leastTurned 6 (some .long), Cond.methodLink RX3 46 Lib.MathLoose.min_long.x, Cond.static Lib.MathLoose.min_long.x, Cond.code Lib.MathLoose.min_long.x Lib.MathLoose.min_long.code 4 (some .long), Cond.methodLink RL 69 yX7_least, Cond.instanceMethod yX7_least, Cond.selects RX7 yX7_least yX7_least]
def wsL_law_r13 : List Cond := [Cond.code yX7_least cX7_least 2 (some .long), Cond.methodLink RL 70 yX6_turn, Cond.instanceMethod yX6_turn, Cond.selects RX6 yX6_turn yX6_turn, Cond.code yX6_turn cX6_turn 4 (some .int), Cond.methodLink RX6 118 yX3_turned, Cond.methodLink RL 73 yX7_turn, Cond.instanceMethod yX7_turn, Cond.selects RX7 yX7_turn yX7_turn, Cond.code yX7_turn cX7_turn 3 (some .int), Cond.methodLink RL 74 yX6_put, Cond.instanceMethod yX6_put, Cond.selects RX6 yX6_put yX6_put, Cond.code yX6_put cX6_put 4 (some .int), Cond.methodLink RX6 122 yX3_joined, Cond.static yX3_joined, Cond.code yX3_joined cX3_joined 5 (some .long), Cond.methodLink RL 77 yX7_put, Cond.instanceMethod yX7_put, Cond.selects RX7 yX7_put yX7_put, Cond.code yX7_put cX7_put 4 (some .int), Cond.methodLink RX7 100 yX7_behind, Cond.static yX7_behind, Cond.code yX7_behind cX7_behind 5 (some .long)]
def wsL_law_r14 : List Cond := [Cond.methodLink RL 78 yX6_weave, Cond.instanceMethod yX6_weave, Cond.selects RX6 yX6_weave yX6_weave, Cond.code yX6_weave cX6_weave 4 (some .int), Cond.methodLink RX6 126 yX6_areAlikeLong, Cond.instanceMethod yX6_areAlikeLong, Cond.selects RX6 yX6_areAlikeLong yX6_areAlikeLong, Cond.code yX6_areAlikeLong cX6_areAlikeLong 3 (some .boolean), Cond.methodLink RX6 129 yX3_woven, Cond.static yX3_woven, Cond.code yX3_woven cX3_woven 8 (some .long), Cond.methodLink RL 81 yX7_weave, Cond.instanceMethod yX7_weave, Cond.selects RX7 yX7_weave yX7_weave, Cond.code yX7_weave cX7_weave 7 (some .int), Cond.methodLink RX7 104 yX7_areLike, Cond.instanceMethod yX7_areLike, Cond.selects RX7 yX7_areLike yX7_areLike, Cond.code yX7_areLike cX7_areLike 3 (some .boolean), Cond.methodLink RL 82 yX6_times, Cond.instanceMethod yX6_times, Cond.selects RX6 yX6_times yX6_times, Cond.code yX6_times cX6_times 4 (some .int), Cond.methodLink RX6 133 yX3_product]
def wsL_law_r15 : List Cond := [Cond.static yX3_product, Cond.code yX3_product cX3_product 11 (some .long), Cond.methodLink RX3 54 yX3_sign, Cond.methodLink RL 85 yX7_times, Cond.instanceMethod yX7_times, Cond.selects RX7 yX7_times yX7_times, Cond.code yX7_times cX7_times 7 (some .int), Cond.methodLink RL 86 yX6_cancels, Cond.instanceMethod yX6_cancels, Cond.selects RX6 yX6_cancels yX6_cancels, Cond.code yX6_cancels cX6_cancels 3 (some .int), Cond.methodLink RX6 137 yX3_firstLeftOpen, Cond.static yX3_firstLeftOpen, Cond.code yX3_firstLeftOpen cX3_firstLeftOpen 6 (some .int), Cond.methodLink RL 89 yX7_cancels, Cond.instanceMethod yX7_cancels, Cond.selects RX7 yX7_cancels yX7_cancels, Cond.code yX7_cancels cX7_cancels 3 (some .int), Cond.methodLink RX7 108 yX7_cancelOf, Cond.static yX7_cancelOf, Cond.code yX7_cancelOf cX7_cancelOf 6 (some .int), Cond.methodLink RL 90 yX6_four, Cond.instanceMethod yX6_four, Cond.selects RX6 yX6_four yX6_four]
def wsL_law_r16 : List Cond := [Cond.code yX6_four cX6_four 9 (some .int), Cond.methodLink RL 93 yX7_four, Cond.instanceMethod yX7_four, Cond.selects RX7 yX7_four yX7_four, Cond.code yX7_four cX7_four 7 (some .int), Cond.methodLink RL 94 yX6_doubled, Cond.instanceMethod yX6_doubled, Cond.selects RX6 yX6_doubled yX6_doubled, Cond.code yX6_doubled cX6_doubled 5 (some .int), Cond.methodLink RX6 141 yX3_opposite, Cond.methodLink RL 97 yX7_doubled, Cond.instanceMethod yX7_doubled, Cond.selects RX7 yX7_doubled yX7_doubled, Cond.code yX7_doubled cX7_doubled 10 (some .int), Cond.methodLink RX7 112 yX7_opposite, Cond.static yX7_opposite, Cond.code yX7_opposite cX7_opposite 3 (some .long), Cond.methodLink RL 98 yX6_told, Cond.instanceMethod yX6_told, Cond.selects RX6 yX6_told yX6_told, Cond.code yX6_told cX6_told 10 (some .int), Cond.methodLink RX6 144 yX5_seedOf, Cond.static yX5_seedOf, Cond.initialized RX5]
def wsL_law_r17 : List Cond := [Cond.code yX5_seedOf cX5_seedOf 1 (some .int), Cond.methodLink RX5 7 yJ6_bitCount_0f7a4, Cond.static yJ6_bitCount_0f7a4, Cond.initialized RJ6, Cond.code yJ6_bitCount_0f7a4 cJ6_bitCount_0f7a4 1 (some .int), Cond.constant RJ6 265 (1431655765), Cond.constant RJ6 266 (858993459), Cond.constant RJ6 267 (252645135), Cond.methodLink RX6 149 yX5_firstOfSeed, Cond.static yX5_firstOfSeed, Cond.code yX5_firstOfSeed cX5_firstOfSeed 1 (some .long), Cond.constantLong RX5 15 (6477200), Cond.constantLong RX5 17 (212), Cond.methodLink RX6 152 yX5_secondOfSeed, Cond.static yX5_secondOfSeed, Cond.code yX5_secondOfSeed cX5_secondOfSeed 1 (some .long), Cond.constantLong RX5 19 (60622224), Cond.constantLong RX5 21 (772), Cond.methodLink RL 101 yX7_told, Cond.instanceMethod yX7_told, Cond.selects RX7 yX7_told yX7_told, Cond.code yX7_told cX7_told 11 (some .int), Cond.constantLong RX7 115 (2534680), Cond.constantLong RX7 117 (172)]
def wsL_law_r18 : List Cond := [Cond.constantLong RX7 119 (2523879), Cond.constantLong RX7 121 (131), Cond.methodLink RX7 123 yX7_ofBits, Cond.static yX7_ofBits, Cond.code yX7_ofBits cX7_ofBits 6 (some .long), Cond.methodLink RL 102 yX6_why, Cond.instanceMethod yX6_why, Cond.selects RX6 yX6_why yX6_why, Cond.code yX6_why cX6_why 2 (some .int), Cond.constant RX6 155 (1000000), Cond.methodLink RX6 156 yX4_rootOf, Cond.static yX4_rootOf, Cond.initialized RX4, Cond.code yX4_rootOf cX4_rootOf 3 (some .int), Cond.methodLink RX6 161 yX4_ways, Cond.static yX4_ways, Cond.code yX4_ways cX4_ways 5 (some .int), Cond.methodLink RX4 13 Lib.Math.min.name, Cond.static Lib.Math.min.name, Cond.code Lib.Math.min.name Lib.Math.min.code 2 (some .int), Cond.methodLink RX4 7 yX4_rootOf, Cond.methodLink RX4 19 yX4_ways, Cond.methodLink RX6 165 yX4_hasPrimeOfRestThree, Cond.static yX4_hasPrimeOfRestThree]
def wsL_law_r19 : List Cond := [Cond.code yX4_hasPrimeOfRestThree cX4_hasPrimeOfRestThree 2 (some .boolean), Cond.methodLink RL 105 yX7_why, Cond.instanceMethod yX7_why, Cond.selects RX7 yX7_why yX7_why, Cond.code yX7_why cX7_why 4 (some .int), Cond.constantLong RX7 126 (1000000), Cond.methodLink RX7 128 yX7_ways, Cond.static yX7_ways, Cond.code yX7_ways cX7_ways 10 (some .int), Cond.methodLink RX7 132 yX7_rootOf, Cond.static yX7_rootOf, Cond.code yX7_rootOf cX7_rootOf 3 (some .int), Cond.methodLink RL 106 yX6_squares, Cond.instanceMethod yX6_squares, Cond.selects RX6 yX6_squares yX6_squares, Cond.code yX6_squares cX6_squares 3 (some .int), Cond.methodLink RL 109 yX7_squares, Cond.instanceMethod yX7_squares, Cond.selects RX7 yX7_squares yX7_squares, Cond.code yX7_squares cX7_squares 3 (some .int), Cond.constantLong RX7 136 (4), Cond.constantLong RX7 138 (1000), Cond.methodLink RL 110 yX6_pairs, Cond.instanceMethod yX6_pairs]
def wsL_law_r20 : List Cond := [Cond.selects RX6 yX6_pairs yX6_pairs, Cond.code yX6_pairs cX6_pairs 4 (some .int), Cond.fieldLink RX6 172 "CancelRows$PairList" "many" "I", Cond.methodLink RX6 168 yX6_pairListOf, Cond.instanceMethod yX6_pairListOf, Cond.selects RX6 yX6_pairListOf yX6_pairListOf, Cond.code yX6_pairListOf cX6_pairListOf 2 (some (.object "CancelRows$PairList")), Cond.instantiable RX1 2, Cond.initialized RX1, Cond.methodLink RX6 198 yX1_init, Cond.instanceMethod yX1_init, Cond.code yX1_init cX1_init 5 none, Cond.methodLink RX1 1 objectInit, Cond.fieldLink RX1 7 "CancelRows$PairList" "many" "I", Cond.classLink RX1 13 RJx4a65c, Cond.instantiable RJx4a65c 3, Cond.initialized RJx4a65c, Cond.fieldLink RX1 16 "CancelRows$PairList" "codes" "Ljava/util/ArrayList;", Cond.methodLink RX1 15 yJx4a65c_init_da8c8, Cond.instanceMethod yJx4a65c_init_da8c8, Cond.code yJx4a65c_init_da8c8 cJx4a65c_init_da8c8 1 none, Cond.fieldLink RJx4a65c 39 "java/util/ArrayList" "DEFAULTCAPACITY_EMPTY_ELEMENTDATA" "[Ljava/lang/Object;", Cond.fieldLink RJx4a65c 9 "java/util/ArrayList" "elementData" "[Ljava/lang/Object;", Cond.methodLink RJx4a65c 1 yJxc12de_init_da8c8]
def wsL_law_r21 : List Cond := [Cond.instanceMethod yJxc12de_init_da8c8, Cond.initialized RJxc12de, Cond.code yJxc12de_init_da8c8 cJxc12de_init_da8c8 1 none, Cond.fieldLink RJxc12de 7 "java/util/AbstractList" "modCount" "I", Cond.methodLink RJxc12de 1 yJxa1e45_init_da8c8, Cond.instanceMethod yJxa1e45_init_da8c8, Cond.initialized RJxa1e45, Cond.code yJxa1e45_init_da8c8 cJxa1e45_init_da8c8 1 none, Cond.methodLink RJxa1e45 1 objectInit, Cond.methodLink RX1 20 yX3_firstLeftOpen, Cond.methodLink RX1 26 yX1_keepIfLeast, Cond.instanceMethod yX1_keepIfLeast, Cond.selects RX1 yX1_keepIfLeast yX1_keepIfLeast, Cond.code yX1_keepIfLeast cX1_keepIfLeast 11 none, Cond.methodLink RX1 43 yX1_codeOf, Cond.static yX1_codeOf, Cond.code yX1_codeOf cX1_codeOf 4 (some .int), Cond.methodLink RX1 47 yX3_turned, Cond.methodLink RX1 51 yJ6_valueOf_2dffe, Cond.static yJ6_valueOf_2dffe, Cond.code yJ6_valueOf_2dffe cJ6_valueOf_2dffe 1 (some (.object "java/lang/Integer")), Cond.fieldLink RJ6 191 "java/lang/Integer$IntegerCache" "high" "I", Cond.fieldLink RJ6 195 "java/lang/Integer$IntegerCache" "cache" "[Ljava/lang/Integer;", Cond.classLink RJ6 1 RJ6]
def wsL_law_r22 : List Cond := [Cond.instantiable RJ6 1, Cond.methodLink RJ6 199 yJ6_init_d00df, Cond.instanceMethod yJ6_init_d00df, Cond.code yJ6_init_d00df cJ6_init_d00df 2 none, Cond.fieldLink RJ6 205 "java/lang/Integer" "value" "I", Cond.methodLink RJ6 202 yJxd2413_init_da8c8, Cond.instanceMethod yJxd2413_init_da8c8, Cond.initialized RJxd2413, Cond.code yJxd2413_init_da8c8 cJxd2413_init_da8c8 1 none, Cond.methodLink RJxd2413 1 objectInit, Cond.methodLink RX1 55 yJx4a65c_add_9ea2d, Cond.instanceMethod yJx4a65c_add_9ea2d, Cond.selects RJx4a65c yJx4a65c_add_9ea2d yJx4a65c_add_9ea2d, Cond.code yJx4a65c_add_9ea2d cJx4a65c_add_9ea2d 2 (some .boolean), Cond.fieldLink RJx4a65c 63 "java/util/ArrayList" "modCount" "I", Cond.sameField "java/util/ArrayList" "java/util/AbstractList" "modCount" "I", Cond.fieldLink RJx4a65c 48 "java/util/ArrayList" "size" "I", Cond.methodLink RJx4a65c 131 yJx4a65c_add_72be8, Cond.instanceMethod yJx4a65c_add_72be8, Cond.selects RJx4a65c yJx4a65c_add_72be8 yJx4a65c_add_72be8, Cond.code yJx4a65c_add_72be8 cJx4a65c_add_72be8 4 none, Cond.methodLink RJx4a65c 129 yJx4a65c_grow_d5877, Cond.instanceMethod yJx4a65c_grow_d5877, Cond.selects RJx4a65c yJx4a65c_grow_d5877 yJx4a65c_grow_d5877]
def wsL_law_r23 : List Cond := [Cond.code yJx4a65c_grow_d5877 cJx4a65c_grow_d5877 1 (some (.array (.object "java/lang/Object"))), Cond.methodLink RJx4a65c 69 yJx4a65c_grow_92f84, Cond.instanceMethod yJx4a65c_grow_92f84, Cond.selects RJx4a65c yJx4a65c_grow_92f84 yJx4a65c_grow_92f84, Cond.code yJx4a65c_grow_92f84 cJx4a65c_grow_92f84 4 (some (.array (.object "java/lang/Object"))), Cond.methodLink RJx4a65c 79 Lib.Math.max.name, Cond.classLink RJx4a65c 7 "java/lang/Object", Cond.methodLink RJx4a65c 73 yJ8_newLength_cabcc, Cond.static yJ8_newLength_cabcc, Cond.initialized RJ8, Cond.code yJ8_newLength_cabcc cJ8_newLength_cabcc 4 (some .int), Cond.methodLink RJ8 194 Lib.Math.max.name, Cond.constant RJ8 200 (2147483639), Cond.methodLink RJ8 201 yJ8_hugeLength_7cf53, Cond.static yJ8_hugeLength_7cf53, Cond.code yJ8_hugeLength_7cf53 cJ8_hugeLength_7cf53 3 (some .int), Cond.methodLink RJx4a65c 66 yJ7_copyOf_1904c, Cond.static yJ7_copyOf_1904c, Cond.initialized RJ7, Cond.code yJ7_copyOf_1904c cJ7_copyOf_1904c 2 (some (.array (.object "java/lang/Object"))), Cond.methodLink RJ7 86 ⟨"java/lang/Object", "getClass", "()Ljava/lang/Class;"⟩, Cond.selects "[Ljava/lang/Object;" ⟨"java/lang/Object", "getClass", "()Ljava/lang/Class;"⟩ ⟨"java/lang/Object", "getClass", "()Ljava/lang/Class;"⟩, Cond.instanceMethod ⟨"java/lang/Object", "getClass", "()Ljava/lang/Class;"⟩, Cond.native ⟨"java/lang/Object", "getClass", "()Ljava/lang/Class;"⟩]
def wsL_law_r24 : List Cond := [Cond.methodLink RJ7 300 yJ7_copyOf_6403c, Cond.static yJ7_copyOf_6403c, Cond.code yJ7_copyOf_6403c cJ7_copyOf_6403c 4 (some (.array (.object "java/lang/Object"))), Cond.classLink RJ7 110 "[Ljava/lang/Object;", Cond.classLink RJ7 2 "java/lang/Object", Cond.methodLink RJ7 304 Lib.Math.min.name, Cond.methodLink RJ7 150 arraycopyName, Cond.native arraycopyName, Cond.static arraycopyName, Cond.initialized "java/lang/System", Cond.methodLink RX6 175 yX1_kinds, Cond.instanceMethod yX1_kinds, Cond.selects RX1 yX1_kinds yX1_kinds, Cond.code yX1_kinds cX1_kinds 1 (some .int), Cond.methodLink RX1 30 yJx4a65c_size_8abf5, Cond.instanceMethod yJx4a65c_size_8abf5, Cond.selects RJx4a65c yJx4a65c_size_8abf5 yJx4a65c_size_8abf5, Cond.code yJx4a65c_size_8abf5 cJx4a65c_size_8abf5 1 (some .int), Cond.methodLink RX6 179 yX1_codeAt, Cond.instanceMethod yX1_codeAt, Cond.selects RX1 yX1_codeAt yX1_codeAt, Cond.code yX1_codeAt cX1_codeAt 2 (some .int), Cond.classLink RX1 38 "java/lang/Integer", Cond.methodLink RX1 34 yJx4a65c_get_915e3]
def wsL_law_r25 : List Cond := [Cond.instanceMethod yJx4a65c_get_915e3, Cond.selects RJx4a65c yJx4a65c_get_915e3 yJx4a65c_get_915e3, Cond.code yJx4a65c_get_915e3 cJx4a65c_get_915e3 2 (some (.object "java/lang/Object")), Cond.methodLink RJx4a65c 118 yJ15_checkIndex_7cf53, Cond.static yJ15_checkIndex_7cf53, Cond.initialized RJ15, Cond.code yJ15_checkIndex_7cf53 cJ15_checkIndex_7cf53 2 (some .int), Cond.methodLink RJ15 105 yJ3_checkIndex_8e157, Cond.static yJ3_checkIndex_8e157, Cond.initialized RJ3, Cond.code yJ3_checkIndex_8e157 cJ3_checkIndex_8e157 3 (some .int), Cond.methodLink RJx4a65c 123 yJx4a65c_elementData_915e3, Cond.instanceMethod yJx4a65c_elementData_915e3, Cond.selects RJx4a65c yJx4a65c_elementData_915e3 yJx4a65c_elementData_915e3, Cond.code yJx4a65c_elementData_915e3 cJx4a65c_elementData_915e3 2 (some (.object "java/lang/Object")), Cond.methodLink RX1 40 yJ6_intValue_8abf5, Cond.instanceMethod yJ6_intValue_8abf5, Cond.selects RJ6 yJ6_intValue_8abf5 yJ6_intValue_8abf5, Cond.code yJ6_intValue_8abf5 cJ6_intValue_8abf5 1 (some .int), Cond.methodLink RL 113 yX7_pairs, Cond.instanceMethod yX7_pairs, Cond.selects RX7 yX7_pairs yX7_pairs, Cond.code yX7_pairs cX7_pairs 3 (some .int), Cond.constantLong RX7 150 (8)]
def wsL_law_r26 : List Cond := [Cond.fieldLink RX7 140 "CancelRowsModel" "pairMany" "I", Cond.fieldLink RX7 143 "CancelRowsModel" "leastMany" "I", Cond.methodLink RX7 152 yX7_know, Cond.instanceMethod yX7_know, Cond.selects RX7 yX7_know yX7_know, Cond.code yX7_know cX7_know 7 none, Cond.methodLink RX7 146 yX7_isLeast, Cond.static yX7_isLeast, Cond.code yX7_isLeast cX7_isLeast 12 (some .boolean), Cond.methodLink RL 114 yX6_pair, Cond.instanceMethod yX6_pair, Cond.selects RX6 yX6_pair yX6_pair, Cond.code yX6_pair cX6_pair 4 (some .int), Cond.methodLink RL 117 yX7_pair, Cond.instanceMethod yX7_pair, Cond.selects RX7 yX7_pair yX7_pair, Cond.code yX7_pair cX7_pair 3 (some .int), Cond.methodLink RL 118 yX6_best, Cond.instanceMethod yX6_best, Cond.selects RX6 yX6_best yX6_best, Cond.code yX6_best cX6_best 4 (some .int), Cond.fieldLink RX6 186 "CancelRows$BestRows" "value" "I", Cond.fieldLink RX6 189 "CancelRows$BestRows" "leastNumber" "I", Cond.fieldLink RX6 192 "CancelRows$BestRows" "many" "I"]
def wsL_law_r27 : List Cond := [Cond.fieldLink RX6 193 "CancelRows$BestRows" "kinds" "I", Cond.methodLink RX6 182 yX6_bestRowsOf, Cond.instanceMethod yX6_bestRowsOf, Cond.selects RX6 yX6_bestRowsOf yX6_bestRowsOf, Cond.code yX6_bestRowsOf cX6_bestRowsOf 4 (some (.object "CancelRows$BestRows")), Cond.instantiable RX0 4, Cond.initialized RX0, Cond.methodLink RX6 201 yX0_init, Cond.instanceMethod yX0_init, Cond.code yX0_init cX0_init 7 none, Cond.methodLink RX0 1 objectInit, Cond.constant RX0 9 (1000000), Cond.fieldLink RX0 10 "CancelRows$BestRows" "value" "I", Cond.fieldLink RX0 23 "CancelRows$BestRows" "leastNumber" "I", Cond.fieldLink RX0 26 "CancelRows$BestRows" "many" "I", Cond.fieldLink RX0 29 "CancelRows$BestRows" "kinds" "I", Cond.methodLink RX0 14 yX3_peak, Cond.methodLink RX0 20 yX3_energy, Cond.methodLink RX0 32 yX3_leastTurned, Cond.methodLink RL 121 yX7_best, Cond.instanceMethod yX7_best, Cond.selects RX7 yX7_best yX7_best, Cond.code yX7_best cX7_best 4 (some .int), Cond.constantLong RX7 157 (14)]
def wsL_law_r28 : List Cond := [Cond.methodLink RX7 159 yX7_search, Cond.instanceMethod yX7_search, Cond.selects RX7 yX7_search yX7_search, Cond.code yX7_search cX7_search 7 none, Cond.constant RX7 156 (1000000), Cond.methodLink RL 122 yX6_count, Cond.instanceMethod yX6_count, Cond.selects RX6 yX6_count yX6_count, Cond.code yX6_count cX6_count 3 (some .int), Cond.methodLink RX6 195 yX2_size, Cond.instanceMethod yX2_size, Cond.selects RX2 yX2_size yX2_size, Cond.code yX2_size cX2_size 1 (some .int), Cond.methodLink RL 125 yX7_count, Cond.instanceMethod yX7_count, Cond.selects RX7 yX7_count yX7_count, Cond.code yX7_count cX7_count 2 (some .int)]
def wsL_law : List Cond := (wsL_law_r1 ++ (wsL_law_r2 ++ (wsL_law_r3 ++ (wsL_law_r4 ++ (wsL_law_r5 ++ (wsL_law_r6 ++ (wsL_law_r7 ++ (wsL_law_r8 ++ (wsL_law_r9 ++ (wsL_law_r10 ++ (wsL_law_r11 ++ (wsL_law_r12 ++ (wsL_law_r13 ++ (wsL_law_r14 ++ (wsL_law_r15 ++ (wsL_law_r16 ++ (wsL_law_r17 ++ (wsL_law_r18 ++ (wsL_law_r19 ++ (wsL_law_r20 ++ (wsL_law_r21 ++ (wsL_law_r22 ++ (wsL_law_r23 ++ (wsL_law_r24 ++ (wsL_law_r25 ++ (wsL_law_r26 ++ (wsL_law_r27 ++ wsL_law_r28))))))))))))))))))))))))))) ++ wsX60 ++ wsX70 ++ wsX20 ++ wsX10 ++ wsJx4a65c0 ++ wsJ60 ++ wsX00 ++ ([] : List Cond)
set_option maxRecDepth 20000 in
theorem wsL_law_r1_in : ∀ w ∈ wsL_law_r1, w ∈ lw_tbl := fun w h => (goodIn_p wsL_law_r1 [43, 46] (by decide +kernel) (by decide +kernel) w h).1
set_option maxRecDepth 20000 in
theorem wsL_law_r2_in : ∀ w ∈ wsL_law_r2, w ∈ lw_tbl := fun w h => (goodIn_p wsL_law_r2 [538, 80] (by decide +kernel) (by decide +kernel) w h).1
set_option maxRecDepth 20000 in
theorem wsL_law_r3_in : ∀ w ∈ wsL_law_r3, w ∈ lw_tbl := fun w h => (goodIn_p wsL_law_r3 [83, 86, 90, 94, 593, 597] (by decide +kernel) (by decide +kernel) w h).1
set_option maxRecDepth 20000 in
theorem wsL_law_r4_in : ∀ w ∈ wsL_law_r4, w ∈ lw_tbl := fun w h => (goodIn_p wsL_law_r4 [601, 98, 101, 104, 108, 112] (by decide +kernel) (by decide +kernel) w h).1
set_option maxRecDepth 20000 in
theorem wsL_law_r5_in : ∀ w ∈ wsL_law_r5, w ∈ lw_tbl := fun w h => (goodIn_p wsL_law_r5 [605, 124, 128, 132, 137] (by decide +kernel) (by decide +kernel) w h).1
set_option maxRecDepth 20000 in
theorem wsL_law_r6_in : ∀ w ∈ wsL_law_r6, w ∈ lw_tbl := fun w h => (goodIn_p wsL_law_r6 [611, 141, 145, 615, 149, 619] (by decide +kernel) (by decide +kernel) w h).1
set_option maxRecDepth 20000 in
theorem wsL_law_r7_in : ∀ w ∈ wsL_law_r7, w ∈ lw_tbl := fun w h => (goodIn_p wsL_law_r7 [153, 157, 623, 627, 161, 164] (by decide +kernel) (by decide +kernel) w h).1
set_option maxRecDepth 20000 in
theorem wsL_law_r8_in : ∀ w ∈ wsL_law_r8, w ∈ lw_tbl := fun w h => (goodIn_p wsL_law_r8 [631, 634, 168, 638, 173, 176] (by decide +kernel) (by decide +kernel) w h).1
set_option maxRecDepth 20000 in
theorem wsL_law_r9_in : ∀ w ∈ wsL_law_r9, w ∈ lw_tbl := fun w h => (goodIn_p wsL_law_r9 [180, 643, 646, 187, 190] (by decide +kernel) (by decide +kernel) w h).1
set_option maxRecDepth 20000 in
theorem wsL_law_r10_in : ∀ w ∈ wsL_law_r10, w ∈ lw_tbl := fun w h => (goodIn_p wsL_law_r10 [650, 653, 194, 197, 201, 205, 208] (by decide +kernel) (by decide +kernel) w h).1
set_option maxRecDepth 20000 in
theorem wsL_law_r11_in : ∀ w ∈ wsL_law_r11, w ∈ lw_tbl := fun w h => (goodIn_p wsL_law_r11 [211, 214, 217, 220, 223, 226, 657] (by decide +kernel) (by decide +kernel) w h).1
set_option maxRecDepth 20000 in
theorem wsL_law_r12_in : ∀ w ∈ wsL_law_r12, w ∈ lw_tbl := fun w h => (goodIn_p wsL_law_r12 [660, 663, 667, 670, 231, 234, 237] (by decide +kernel) (by decide +kernel) w h).1
set_option maxRecDepth 20000 in
theorem wsL_law_r13_in : ∀ w ∈ wsL_law_r13, w ∈ lw_tbl := fun w h => (goodIn_p wsL_law_r13 [674, 241, 678, 246, 249, 682, 685] (by decide +kernel) (by decide +kernel) w h).1
set_option maxRecDepth 20000 in
theorem wsL_law_r14_in : ∀ w ∈ wsL_law_r14, w ∈ lw_tbl := fun w h => (goodIn_p wsL_law_r14 [253, 257, 260, 689, 693, 264] (by decide +kernel) (by decide +kernel) w h).1
set_option maxRecDepth 20000 in
theorem wsL_law_r15_in : ∀ w ∈ wsL_law_r15, w ∈ lw_tbl := fun w h => (goodIn_p wsL_law_r15 [267, 697, 272, 275, 701, 704] (by decide +kernel) (by decide +kernel) w h).1
set_option maxRecDepth 20000 in
theorem wsL_law_r16_in : ∀ w ∈ wsL_law_r16, w ∈ lw_tbl := fun w h => (goodIn_p wsL_law_r16 [279, 708, 283, 712, 715, 288] (by decide +kernel) (by decide +kernel) w h).1
set_option maxRecDepth 20000 in
theorem wsL_law_r17_in : ∀ w ∈ wsL_law_r17, w ∈ lw_tbl := fun w h => (goodIn_p wsL_law_r17 [291, 294, 300, 305, 719] (by decide +kernel) (by decide +kernel) w h).1
set_option maxRecDepth 20000 in
theorem wsL_law_r18_in : ∀ w ∈ wsL_law_r18, w ∈ lw_tbl := fun w h => (goodIn_p wsL_law_r18 [726, 311, 315, 318, 322] (by decide +kernel) (by decide +kernel) w h).1
set_option maxRecDepth 20000 in
theorem wsL_law_r19_in : ∀ w ∈ wsL_law_r19, w ∈ lw_tbl := fun w h => (goodIn_p wsL_law_r19 [326, 730, 734, 737, 330, 741] (by decide +kernel) (by decide +kernel) w h).1
set_option maxRecDepth 20000 in
theorem wsL_law_r20_in : ∀ w ∈ wsL_law_r20, w ∈ lw_tbl := fun w h => (goodIn_p wsL_law_r20 [334, 338, 342, 348] (by decide +kernel) (by decide +kernel) w h).1
set_option maxRecDepth 20000 in
theorem wsL_law_r21_in : ∀ w ∈ wsL_law_r21, w ∈ lw_tbl := fun w h => (goodIn_p wsL_law_r21 [351, 354, 374, 377, 381] (by decide +kernel) (by decide +kernel) w h).1
set_option maxRecDepth 20000 in
theorem wsL_law_r22_in : ∀ w ∈ wsL_law_r22, w ∈ lw_tbl := fun w h => (goodIn_p wsL_law_r22 [390, 393, 402, 406] (by decide +kernel) (by decide +kernel) w h).1
set_option maxRecDepth 20000 in
theorem wsL_law_r23_in : ∀ w ∈ wsL_law_r23, w ∈ lw_tbl := fun w h => (goodIn_p wsL_law_r23 [410, 414, 417, 422, 425] (by decide +kernel) (by decide +kernel) w h).1
set_option maxRecDepth 20000 in
theorem wsL_law_r24_in : ∀ w ∈ wsL_law_r24, w ∈ lw_tbl := fun w h => (goodIn_p wsL_law_r24 [439, 460, 464, 468] (by decide +kernel) (by decide +kernel) w h).1
set_option maxRecDepth 20000 in
theorem wsL_law_r25_in : ∀ w ∈ wsL_law_r25, w ∈ lw_tbl := fun w h => (goodIn_p wsL_law_r25 [472, 475, 478, 482, 487, 747] (by decide +kernel) (by decide +kernel) w h).1
set_option maxRecDepth 20000 in
theorem wsL_law_r26_in : ∀ w ∈ wsL_law_r26, w ∈ lw_tbl := fun w h => (goodIn_p wsL_law_r26 [752, 755, 491, 759, 495] (by decide +kernel) (by decide +kernel) w h).1
set_option maxRecDepth 20000 in
theorem wsL_law_r27_in : ∀ w ∈ wsL_law_r27, w ∈ lw_tbl := fun w h => (goodIn_p wsL_law_r27 [499, 503, 763] (by decide +kernel) (by decide +kernel) w h).1
set_option maxRecDepth 20000 in
theorem wsL_law_r28_in : ∀ w ∈ wsL_law_r28, w ∈ lw_tbl := fun w h => (goodIn_p wsL_law_r28 [768, 529, 533, 773] (by decide +kernel) (by decide +kernel) w h).1
set_option maxRecDepth 20000 in
theorem wsX60_inT : ∀ w ∈ wsX60, w ∈ lw_tbl := fun w h => (goodIn_p wsX60 [] (by decide +kernel) (by decide +kernel) w h).1
set_option maxRecDepth 20000 in
theorem wsX70_inT : ∀ w ∈ wsX70, w ∈ lw_tbl := fun w h => (goodIn_p wsX70 [] (by decide +kernel) (by decide +kernel) w h).1
set_option maxRecDepth 20000 in
theorem wsX20_inT : ∀ w ∈ wsX20, w ∈ lw_tbl := fun w h => (goodIn_p wsX20 [] (by decide +kernel) (by decide +kernel) w h).1
set_option maxRecDepth 20000 in
theorem wsX10_inT : ∀ w ∈ wsX10, w ∈ lw_tbl := fun w h => (goodIn_p wsX10 [] (by decide +kernel) (by decide +kernel) w h).1
set_option maxRecDepth 20000 in
theorem wsJx4a65c0_inT : ∀ w ∈ wsJx4a65c0, w ∈ lw_tbl := fun w h => (goodIn_p wsJx4a65c0 [] (by decide +kernel) (by decide +kernel) w h).1
set_option maxRecDepth 20000 in
theorem wsJ60_inT : ∀ w ∈ wsJ60, w ∈ lw_tbl := fun w h => (goodIn_p wsJ60 [] (by decide +kernel) (by decide +kernel) w h).1
set_option maxRecDepth 20000 in
theorem wsX00_inT : ∀ w ∈ wsX00, w ∈ lw_tbl := fun w h => (goodIn_p wsX00 [] (by decide +kernel) (by decide +kernel) w h).1
theorem wsL_law_in : ∀ w ∈ wsL_law, w ∈ lw_tbl := by
  unfold wsL_law
  exact (List.forall_mem_append.mpr ⟨(List.forall_mem_append.mpr ⟨(List.forall_mem_append.mpr ⟨(List.forall_mem_append.mpr ⟨(List.forall_mem_append.mpr ⟨(List.forall_mem_append.mpr ⟨(List.forall_mem_append.mpr ⟨(List.forall_mem_append.mpr ⟨(List.forall_mem_append.mpr ⟨wsL_law_r1_in, (List.forall_mem_append.mpr ⟨wsL_law_r2_in, (List.forall_mem_append.mpr ⟨wsL_law_r3_in, (List.forall_mem_append.mpr ⟨wsL_law_r4_in, (List.forall_mem_append.mpr ⟨wsL_law_r5_in, (List.forall_mem_append.mpr ⟨wsL_law_r6_in, (List.forall_mem_append.mpr ⟨wsL_law_r7_in, (List.forall_mem_append.mpr ⟨wsL_law_r8_in, (List.forall_mem_append.mpr ⟨wsL_law_r9_in, (List.forall_mem_append.mpr ⟨wsL_law_r10_in, (List.forall_mem_append.mpr ⟨wsL_law_r11_in, (List.forall_mem_append.mpr ⟨wsL_law_r12_in, (List.forall_mem_append.mpr ⟨wsL_law_r13_in, (List.forall_mem_append.mpr ⟨wsL_law_r14_in, (List.forall_mem_append.mpr ⟨wsL_law_r15_in, (List.forall_mem_append.mpr ⟨wsL_law_r16_in, (List.forall_mem_append.mpr ⟨wsL_law_r17_in, (List.forall_mem_append.mpr ⟨wsL_law_r18_in, (List.forall_mem_append.mpr ⟨wsL_law_r19_in, (List.forall_mem_append.mpr ⟨wsL_law_r20_in, (List.forall_mem_append.mpr ⟨wsL_law_r21_in, (List.forall_mem_append.mpr ⟨wsL_law_r22_in, (List.forall_mem_append.mpr ⟨wsL_law_r23_in, (List.forall_mem_append.mpr ⟨wsL_law_r24_in, (List.forall_mem_append.mpr ⟨wsL_law_r25_in, (List.forall_mem_append.mpr ⟨wsL_law_r26_in, (List.forall_mem_append.mpr ⟨wsL_law_r27_in, wsL_law_r28_in⟩)⟩)⟩)⟩)⟩)⟩)⟩)⟩)⟩)⟩)⟩)⟩)⟩)⟩)⟩)⟩)⟩)⟩)⟩)⟩)⟩)⟩)⟩)⟩)⟩)⟩)⟩), wsX60_inT⟩), wsX70_inT⟩), wsX20_inT⟩), wsX10_inT⟩), wsJx4a65c0_inT⟩), wsJ60_inT⟩), wsX00_inT⟩), fun _ h => absurd h List.not_mem_nil⟩)
theorem inlX0 : ∀ w ∈ wsX00, w ∈ wsL_law := fun _ h => List.mem_append_left _ (List.mem_append_right _ h)
theorem inX0 : ∀ w ∈ wsX00, w ∈ lw_tbl := fun w h => wsL_law_in w (inlX0 w h)
theorem inlX1 : ∀ w ∈ wsX10, w ∈ wsL_law := fun _ h => List.mem_append_left _ (List.mem_append_left _ (List.mem_append_left _ (List.mem_append_left _ (List.mem_append_right _ h))))
theorem inX1 : ∀ w ∈ wsX10, w ∈ lw_tbl := fun w h => wsL_law_in w (inlX1 w h)
theorem inlX2 : ∀ w ∈ wsX20, w ∈ wsL_law := fun _ h => List.mem_append_left _ (List.mem_append_left _ (List.mem_append_left _ (List.mem_append_left _ (List.mem_append_left _ (List.mem_append_right _ h)))))
theorem inX2 : ∀ w ∈ wsX20, w ∈ lw_tbl := fun w h => wsL_law_in w (inlX2 w h)
theorem inX3 : ∀ w ∈ wsX30, w ∈ lw_tbl := by decide +kernel
theorem inX4 : ∀ w ∈ wsX40, w ∈ lw_tbl := by decide +kernel
theorem inX5 : ∀ w ∈ wsX50, w ∈ lw_tbl := by decide +kernel
theorem inlX6 : ∀ w ∈ wsX60, w ∈ wsL_law := fun _ h => List.mem_append_left _ (List.mem_append_left _ (List.mem_append_left _ (List.mem_append_left _ (List.mem_append_left _ (List.mem_append_left _ (List.mem_append_left _ (List.mem_append_right _ h)))))))
theorem inX6 : ∀ w ∈ wsX60, w ∈ lw_tbl := fun w h => wsL_law_in w (inlX6 w h)
theorem inlX7 : ∀ w ∈ wsX70, w ∈ wsL_law := fun _ h => List.mem_append_left _ (List.mem_append_left _ (List.mem_append_left _ (List.mem_append_left _ (List.mem_append_left _ (List.mem_append_left _ (List.mem_append_right _ h))))))
theorem inX7 : ∀ w ∈ wsX70, w ∈ lw_tbl := fun w h => wsL_law_in w (inlX7 w h)
theorem inJx145de : ∀ w ∈ wsJx145de0, w ∈ lw_tbl := by decide +kernel
theorem inJx8e188 : ∀ w ∈ wsJx8e1880, w ∈ lw_tbl := by decide +kernel
theorem inJxb160c : ∀ w ∈ wsJxb160c0, w ∈ lw_tbl := by decide +kernel
theorem inJxabbfe : ∀ w ∈ wsJxabbfe0, w ∈ lw_tbl := by decide +kernel
theorem inlJ6 : ∀ w ∈ wsJ60, w ∈ wsL_law := fun _ h => List.mem_append_left _ (List.mem_append_left _ (List.mem_append_right _ h))
theorem inJ6 : ∀ w ∈ wsJ60, w ∈ lw_tbl := fun w h => wsL_law_in w (inlJ6 w h)
theorem inJxab1ab : ∀ w ∈ wsJxab1ab0, w ∈ lw_tbl := by decide +kernel
theorem inJ13 : ∀ w ∈ wsJ130, w ∈ lw_tbl := by decide +kernel
theorem inJ9 : ∀ w ∈ wsJ90, w ∈ lw_tbl := by decide +kernel
theorem inJxd2413 : ∀ w ∈ wsJxd24130, w ∈ lw_tbl := by decide +kernel
theorem inJ10 : ∀ w ∈ wsJ100, w ∈ lw_tbl := by decide +kernel
theorem inJxfd54e : ∀ w ∈ wsJxfd54e0, w ∈ lw_tbl := by decide +kernel
theorem inJx3cf43 : ∀ w ∈ wsJx3cf430, w ∈ lw_tbl := by decide +kernel
theorem inJxa1e45 : ∀ w ∈ wsJxa1e450, w ∈ lw_tbl := by decide +kernel
theorem inJxc12de : ∀ w ∈ wsJxc12de0, w ∈ lw_tbl := by decide +kernel
theorem inlJx4a65c : ∀ w ∈ wsJx4a65c0, w ∈ wsL_law := fun _ h => List.mem_append_left _ (List.mem_append_left _ (List.mem_append_left _ (List.mem_append_right _ h)))
theorem inJx4a65c : ∀ w ∈ wsJx4a65c0, w ∈ lw_tbl := fun w h => wsL_law_in w (inlJx4a65c w h)
theorem inJ7 : ∀ w ∈ wsJ70, w ∈ lw_tbl := by decide +kernel
theorem inJx5ef63 : ∀ w ∈ wsJx5ef630, w ∈ lw_tbl := by decide +kernel
theorem inJxbd725 : ∀ w ∈ wsJxbd7250, w ∈ lw_tbl := by decide +kernel
theorem inJ15 : ∀ w ∈ wsJ150, w ∈ lw_tbl := by decide +kernel
theorem inJxf0a74 : ∀ w ∈ wsJxf0a740, w ∈ lw_tbl := by decide +kernel
theorem inJxa66e6 : ∀ w ∈ wsJxa66e60, w ∈ lw_tbl := by decide +kernel
theorem inJ8 : ∀ w ∈ wsJ80, w ∈ lw_tbl := by decide +kernel
theorem inJ3 : ∀ w ∈ wsJ30, w ∈ lw_tbl := by decide +kernel
abbrev vwCl : List vw_C := [(RJ6, TJ6, 1), (RJx4a65c, TJx4a65c, 3), (RX0, TX0, 4), (RX1, TX1, 2), (RX2, TX2, 2), (RX6, TX6, 7), (RX7, TX7, 16)]
end
section
set_option maxRecDepth 20000 in
theorem ggX0_init_X3_peak : GoodIn wsX0_init wsX3_peak := goodIn_r _ [12, 13, 14, 15, 16, 17, 18, 19, 20, 21, 11, 22, 23, 24, 25, 26, 27, 28, 29, 30, 31, 32] (by decide +kernel) (by decide +kernel)
set_option maxRecDepth 20000 in
theorem gX0_init_X3_peak : GoodIn wsX0_init (va_wsS RX0 14 yX3_peak wsX3_peak) := goodIn_app (goodIn_of _ (by decide +kernel)) ggX0_init_X3_peak
set_option maxRecDepth 20000 in
theorem ggX0_init_X3_energy : GoodIn wsX0_init wsX3_energy := goodIn_r _ [35, 20, 21, 11, 22, 23, 24, 25, 26, 27, 28, 29, 30, 31, 32] (by decide +kernel) (by decide +kernel)
set_option maxRecDepth 20000 in
theorem gX0_init_X3_energy : GoodIn wsX0_init (va_wsS RX0 20 yX3_energy wsX3_energy) := goodIn_app (goodIn_of _ (by decide +kernel)) ggX0_init_X3_energy
set_option maxRecDepth 20000 in
theorem ggX0_init_X3_leastTurned : GoodIn wsX0_init wsX3_leastTurned := goodIn_r _ [38, 39, 40, 15, 41, 42, 43, 11, 44, 45, 46, 47, 48, 49, 50, 51, 23, 24, 25] (by decide +kernel) (by decide +kernel)
set_option maxRecDepth 20000 in
theorem gX0_init_X3_leastTurned : GoodIn wsX0_init (va_wsS RX0 32 yX3_leastTurned wsX3_leastTurned) := goodIn_app (goodIn_of _ (by decide +kernel)) ggX0_init_X3_leastTurned
theorem dX0_init_0 : decode cX0_init 0 = .ok (.aload_n 0, 1) := by decide +kernel
theorem dX0_init_1 : decode cX0_init 1 = .ok (.invokespecial 1, 3) := by decide +kernel
theorem dX0_init_4 : decode cX0_init 4 = .ok (.aload_n 0, 1) := by decide +kernel
theorem dX0_init_5 : decode cX0_init 5 = .ok (.ldc 9, 2) := by decide +kernel
theorem dX0_init_7 : decode cX0_init 7 = .ok (.putfield 10, 3) := by decide +kernel
theorem dX0_init_10 : decode cX0_init 10 = .ok (.iload_n 1, 1) := by decide +kernel
theorem dX0_init_11 : decode cX0_init 11 = .ok (.iconst 1, 1) := by decide +kernel
theorem dX0_init_12 : decode cX0_init 12 = .ok (.if_icmp .ne 7, 3) := by decide +kernel
theorem dX0_init_15 : decode cX0_init 15 = .ok (.iconst 2, 1) := by decide +kernel
theorem dX0_init_16 : decode cX0_init 16 = .ok (.goto 4, 3) := by decide +kernel
theorem dX0_init_19 : decode cX0_init 19 = .ok (.iconst 4, 1) := by decide +kernel
theorem dX0_init_20 : decode cX0_init 20 = .ok (.istore_n 3, 1) := by decide +kernel
theorem dX0_init_21 : decode cX0_init 21 = .ok (.iconst 1, 1) := by decide +kernel
theorem dX0_init_22 : decode cX0_init 22 = .ok (.iload_n 1, 1) := by decide +kernel
theorem dX0_init_23 : decode cX0_init 23 = .ok (.ishl, 1) := by decide +kernel
theorem dX0_init_24 : decode cX0_init 24 = .ok (.iload_n 3, 1) := by decide +kernel
theorem dX0_init_25 : decode cX0_init 25 = .ok (.idiv, 1) := by decide +kernel
theorem dX0_init_26 : decode cX0_init 26 = .ok (.istore 4, 2) := by decide +kernel
theorem dX0_init_28 : decode cX0_init 28 = .ok (.iconst 0, 1) := by decide +kernel
theorem dX0_init_29 : decode cX0_init 29 = .ok (.istore 5, 2) := by decide +kernel
theorem dX0_init_31 : decode cX0_init 31 = .ok (.iload 5, 2) := by decide +kernel
theorem dX0_init_33 : decode cX0_init 33 = .ok (.iload 4, 2) := by decide +kernel
theorem dX0_init_35 : decode cX0_init 35 = .ok (.if_icmp .ge 110, 3) := by decide +kernel
theorem dX0_init_38 : decode cX0_init 38 = .ok (.iload_n 2, 1) := by decide +kernel
theorem dX0_init_39 : decode cX0_init 39 = .ok (.ifCond .ne 13, 3) := by decide +kernel
theorem dX0_init_42 : decode cX0_init 42 = .ok (.iload 5, 2) := by decide +kernel
theorem dX0_init_44 : decode cX0_init 44 = .ok (.i2l, 1) := by decide +kernel
theorem dX0_init_45 : decode cX0_init 45 = .ok (.iload_n 1, 1) := by decide +kernel
theorem dX0_init_46 : decode cX0_init 46 = .ok (.invokestatic 14, 3) := by decide +kernel
theorem dX0_init_49 : decode cX0_init 49 = .ok (.goto 10, 3) := by decide +kernel
theorem dX0_init_52 : decode cX0_init 52 = .ok (.iload 5, 2) := by decide +kernel
theorem dX0_init_54 : decode cX0_init 54 = .ok (.i2l, 1) := by decide +kernel
theorem dX0_init_55 : decode cX0_init 55 = .ok (.iload_n 1, 1) := by decide +kernel
theorem dX0_init_56 : decode cX0_init 56 = .ok (.invokestatic 20, 3) := by decide +kernel
theorem dX0_init_59 : decode cX0_init 59 = .ok (.istore 6, 2) := by decide +kernel
theorem dX0_init_61 : decode cX0_init 61 = .ok (.iload 6, 2) := by decide +kernel
theorem dX0_init_63 : decode cX0_init 63 = .ok (.aload_n 0, 1) := by decide +kernel
theorem dX0_init_64 : decode cX0_init 64 = .ok (.getfield 10, 3) := by decide +kernel
theorem dX0_init_67 : decode cX0_init 67 = .ok (.if_icmp .ge 25, 3) := by decide +kernel
theorem dX0_init_70 : decode cX0_init 70 = .ok (.aload_n 0, 1) := by decide +kernel
theorem dX0_init_71 : decode cX0_init 71 = .ok (.iload 6, 2) := by decide +kernel
theorem dX0_init_73 : decode cX0_init 73 = .ok (.putfield 10, 3) := by decide +kernel
theorem dX0_init_76 : decode cX0_init 76 = .ok (.aload_n 0, 1) := by decide +kernel
theorem dX0_init_77 : decode cX0_init 77 = .ok (.iload 5, 2) := by decide +kernel
theorem dX0_init_79 : decode cX0_init 79 = .ok (.putfield 23, 3) := by decide +kernel
theorem dX0_init_82 : decode cX0_init 82 = .ok (.aload_n 0, 1) := by decide +kernel
theorem dX0_init_83 : decode cX0_init 83 = .ok (.iconst 0, 1) := by decide +kernel
theorem dX0_init_84 : decode cX0_init 84 = .ok (.putfield 26, 3) := by decide +kernel
theorem dX0_init_87 : decode cX0_init 87 = .ok (.aload_n 0, 1) := by decide +kernel
theorem dX0_init_88 : decode cX0_init 88 = .ok (.iconst 0, 1) := by decide +kernel
theorem dX0_init_89 : decode cX0_init 89 = .ok (.putfield 29, 3) := by decide +kernel
theorem dX0_init_92 : decode cX0_init 92 = .ok (.iload 6, 2) := by decide +kernel
theorem dX0_init_94 : decode cX0_init 94 = .ok (.aload_n 0, 1) := by decide +kernel
theorem dX0_init_95 : decode cX0_init 95 = .ok (.getfield 10, 3) := by decide +kernel
theorem dX0_init_98 : decode cX0_init 98 = .ok (.if_icmp .ne 41, 3) := by decide +kernel
theorem dX0_init_101 : decode cX0_init 101 = .ok (.aload_n 0, 1) := by decide +kernel
theorem dX0_init_102 : decode cX0_init 102 = .ok (.dup, 1) := by decide +kernel
theorem dX0_init_103 : decode cX0_init 103 = .ok (.getfield 26, 3) := by decide +kernel
theorem dX0_init_106 : decode cX0_init 106 = .ok (.iload_n 3, 1) := by decide +kernel
theorem dX0_init_107 : decode cX0_init 107 = .ok (.iadd, 1) := by decide +kernel
theorem dX0_init_108 : decode cX0_init 108 = .ok (.putfield 26, 3) := by decide +kernel
theorem dX0_init_111 : decode cX0_init 111 = .ok (.aload_n 0, 1) := by decide +kernel
theorem dX0_init_112 : decode cX0_init 112 = .ok (.dup, 1) := by decide +kernel
theorem dX0_init_113 : decode cX0_init 113 = .ok (.getfield 29, 3) := by decide +kernel
theorem dX0_init_116 : decode cX0_init 116 = .ok (.iload 5, 2) := by decide +kernel
theorem dX0_init_118 : decode cX0_init 118 = .ok (.i2l, 1) := by decide +kernel
theorem dX0_init_119 : decode cX0_init 119 = .ok (.iload_n 1, 1) := by decide +kernel
theorem dX0_init_120 : decode cX0_init 120 = .ok (.invokestatic 32, 3) := by decide +kernel
theorem dX0_init_123 : decode cX0_init 123 = .ok (.iload 5, 2) := by decide +kernel
theorem dX0_init_125 : decode cX0_init 125 = .ok (.i2l, 1) := by decide +kernel
theorem dX0_init_126 : decode cX0_init 126 = .ok (.lcmp, 1) := by decide +kernel
theorem dX0_init_127 : decode cX0_init 127 = .ok (.ifCond .ne 7, 3) := by decide +kernel
theorem dX0_init_130 : decode cX0_init 130 = .ok (.iconst 1, 1) := by decide +kernel
theorem dX0_init_131 : decode cX0_init 131 = .ok (.goto 4, 3) := by decide +kernel
theorem dX0_init_134 : decode cX0_init 134 = .ok (.iconst 0, 1) := by decide +kernel
theorem dX0_init_135 : decode cX0_init 135 = .ok (.iadd, 1) := by decide +kernel
theorem dX0_init_136 : decode cX0_init 136 = .ok (.putfield 29, 3) := by decide +kernel
theorem dX0_init_139 : decode cX0_init 139 = .ok (.iinc 5 1, 3) := by decide +kernel
theorem dX0_init_142 : decode cX0_init 142 = .ok (.goto (-111), 3) := by decide +kernel
theorem dX0_init_145 : decode cX0_init 145 = .ok (.return_, 1) := by decide +kernel
set_option maxRecDepth 20000 in
theorem ggX1_init_Jx4a65c_init_da8c8 : GoodIn wsX1_init wsJx4a65c_init_da8c8 := goodIn_r _ [11, 12, 13, 14, 15, 16, 17, 18, 19, 20, 21, 22, 23, 2, 3, 131, 132, 133] (by decide +kernel) (by decide +kernel)
set_option maxRecDepth 20000 in
theorem gX1_init_Jx4a65c_init_da8c8 : GoodIn wsX1_init (wsJx4a65c_init_da8c8) := ggX1_init_Jx4a65c_init_da8c8
set_option maxRecDepth 20000 in
theorem ggX1_init_X3_firstLeftOpen : GoodIn wsX1_init wsX3_firstLeftOpen := goodIn_r _ [27, 28, 29, 26, 30, 31, 32, 33, 34, 35, 36, 37, 38, 39, 40] (by decide +kernel) (by decide +kernel)
set_option maxRecDepth 20000 in
theorem gX1_init_X3_firstLeftOpen : GoodIn wsX1_init (va_wsS RX1 20 yX3_firstLeftOpen wsX3_firstLeftOpen) := goodIn_app (goodIn_of _ (by decide +kernel)) ggX1_init_X3_firstLeftOpen
set_option maxRecDepth 20000 in
theorem ggX1_init_X1_keepIfLeast : GoodIn wsX1_init wsX1_keepIfLeast := goodIn_r _ [45, 8, 46, 47, 44, 48, 49, 50, 26, 51, 52, 53, 54, 55, 56, 57, 58, 31, 32, 33, 59, 60, 61, 62, 63, 64, 65, 66, 67, 68, 69, 70, 71, 72, 73, 74, 75, 2, 3, 76, 77, 78, 7, 79, 80, 81, 13, 82, 83, 84, 85, 86, 87, 88, 89, 90, 91, 92, 93, 94, 12, 95, 96, 97, 98, 99, 100, 101, 102, 103, 104, 105, 106, 107, 108, 109, 110, 111, 112, 113, 114, 115, 116, 117, 118, 119, 120, 121, 122, 123, 124, 125, 126, 127, 128, 129, 130, 134, 131, 132, 133] (by decide +kernel) (by decide +kernel)
set_option maxRecDepth 20000 in
theorem gX1_init_X1_keepIfLeast : GoodIn wsX1_init (wsV RX1 26 RX1 yX1_keepIfLeast wsX1_keepIfLeast) := goodIn_app (goodIn_of _ (by decide +kernel)) ggX1_init_X1_keepIfLeast
theorem dX1_init_0 : decode cX1_init 0 = .ok (.aload_n 0, 1) := by decide +kernel
theorem dX1_init_1 : decode cX1_init 1 = .ok (.invokespecial 1, 3) := by decide +kernel
theorem dX1_init_4 : decode cX1_init 4 = .ok (.aload_n 0, 1) := by decide +kernel
theorem dX1_init_5 : decode cX1_init 5 = .ok (.iconst 0, 1) := by decide +kernel
theorem dX1_init_6 : decode cX1_init 6 = .ok (.putfield 7, 3) := by decide +kernel
theorem dX1_init_9 : decode cX1_init 9 = .ok (.aload_n 0, 1) := by decide +kernel
theorem dX1_init_10 : decode cX1_init 10 = .ok (.new 13, 3) := by decide +kernel
theorem dX1_init_13 : decode cX1_init 13 = .ok (.dup, 1) := by decide +kernel
theorem dX1_init_14 : decode cX1_init 14 = .ok (.invokespecial 15, 3) := by decide +kernel
theorem dX1_init_17 : decode cX1_init 17 = .ok (.putfield 16, 3) := by decide +kernel
theorem dX1_init_20 : decode cX1_init 20 = .ok (.iconst 1, 1) := by decide +kernel
theorem dX1_init_21 : decode cX1_init 21 = .ok (.iload_n 1, 1) := by decide +kernel
theorem dX1_init_22 : decode cX1_init 22 = .ok (.iconst 1, 1) := by decide +kernel
theorem dX1_init_23 : decode cX1_init 23 = .ok (.isub, 1) := by decide +kernel
theorem dX1_init_24 : decode cX1_init 24 = .ok (.ishl, 1) := by decide +kernel
theorem dX1_init_25 : decode cX1_init 25 = .ok (.istore_n 2, 1) := by decide +kernel
theorem dX1_init_26 : decode cX1_init 26 = .ok (.iconst 0, 1) := by decide +kernel
theorem dX1_init_27 : decode cX1_init 27 = .ok (.istore_n 3, 1) := by decide +kernel
theorem dX1_init_28 : decode cX1_init 28 = .ok (.iload_n 3, 1) := by decide +kernel
theorem dX1_init_29 : decode cX1_init 29 = .ok (.iload_n 2, 1) := by decide +kernel
theorem dX1_init_30 : decode cX1_init 30 = .ok (.if_icmp .ge 54, 3) := by decide +kernel
theorem dX1_init_33 : decode cX1_init 33 = .ok (.iconst 0, 1) := by decide +kernel
theorem dX1_init_34 : decode cX1_init 34 = .ok (.istore 4, 2) := by decide +kernel
theorem dX1_init_36 : decode cX1_init 36 = .ok (.iload 4, 2) := by decide +kernel
theorem dX1_init_38 : decode cX1_init 38 = .ok (.iload_n 2, 1) := by decide +kernel
theorem dX1_init_39 : decode cX1_init 39 = .ok (.if_icmp .ge 39, 3) := by decide +kernel
theorem dX1_init_42 : decode cX1_init 42 = .ok (.iload_n 3, 1) := by decide +kernel
theorem dX1_init_43 : decode cX1_init 43 = .ok (.i2l, 1) := by decide +kernel
theorem dX1_init_44 : decode cX1_init 44 = .ok (.iload 4, 2) := by decide +kernel
theorem dX1_init_46 : decode cX1_init 46 = .ok (.i2l, 1) := by decide +kernel
theorem dX1_init_47 : decode cX1_init 47 = .ok (.iload_n 1, 1) := by decide +kernel
theorem dX1_init_48 : decode cX1_init 48 = .ok (.invokestatic 20, 3) := by decide +kernel
theorem dX1_init_51 : decode cX1_init 51 = .ok (.ifCond .ne 21, 3) := by decide +kernel
theorem dX1_init_54 : decode cX1_init 54 = .ok (.aload_n 0, 1) := by decide +kernel
theorem dX1_init_55 : decode cX1_init 55 = .ok (.dup, 1) := by decide +kernel
theorem dX1_init_56 : decode cX1_init 56 = .ok (.getfield 7, 3) := by decide +kernel
theorem dX1_init_59 : decode cX1_init 59 = .ok (.iconst 4, 1) := by decide +kernel
theorem dX1_init_60 : decode cX1_init 60 = .ok (.iadd, 1) := by decide +kernel
theorem dX1_init_61 : decode cX1_init 61 = .ok (.putfield 7, 3) := by decide +kernel
theorem dX1_init_64 : decode cX1_init 64 = .ok (.aload_n 0, 1) := by decide +kernel
theorem dX1_init_65 : decode cX1_init 65 = .ok (.iload_n 3, 1) := by decide +kernel
theorem dX1_init_66 : decode cX1_init 66 = .ok (.iload 4, 2) := by decide +kernel
theorem dX1_init_68 : decode cX1_init 68 = .ok (.iload_n 1, 1) := by decide +kernel
theorem dX1_init_69 : decode cX1_init 69 = .ok (.invokevirtual 26, 3) := by decide +kernel
theorem dX1_init_72 : decode cX1_init 72 = .ok (.iinc 4 1, 3) := by decide +kernel
theorem dX1_init_75 : decode cX1_init 75 = .ok (.goto (-39), 3) := by decide +kernel
theorem dX1_init_78 : decode cX1_init 78 = .ok (.iinc 3 1, 3) := by decide +kernel
theorem dX1_init_81 : decode cX1_init 81 = .ok (.goto (-53), 3) := by decide +kernel
theorem dX1_init_84 : decode cX1_init 84 = .ok (.return_, 1) := by decide +kernel
set_option maxRecDepth 20000 in
theorem ggX1_kinds_Jx4a65c_size_8abf5 : GoodIn wsX1_kinds wsJx4a65c_size_8abf5 := goodIn_r _ [6, 7, 10, 11, 12] (by decide +kernel) (by decide +kernel)
set_option maxRecDepth 20000 in
theorem gX1_kinds_Jx4a65c_size_8abf5 : GoodIn wsX1_kinds (wsV RX1 30 RJx4a65c yJx4a65c_size_8abf5 wsJx4a65c_size_8abf5) := goodIn_app (goodIn_of _ (by decide +kernel)) ggX1_kinds_Jx4a65c_size_8abf5
theorem dX1_kinds_0 : decode cX1_kinds 0 = .ok (.aload_n 0, 1) := by decide +kernel
theorem dX1_kinds_1 : decode cX1_kinds 1 = .ok (.getfield 16, 3) := by decide +kernel
theorem dX1_kinds_4 : decode cX1_kinds 4 = .ok (.invokevirtual 30, 3) := by decide +kernel
theorem dX1_kinds_7 : decode cX1_kinds 7 = .ok (.ireturn, 1) := by decide +kernel
set_option maxRecDepth 20000 in
theorem ggX1_codeAt_Jx4a65c_size_8abf5 : GoodIn wsX1_codeAt wsJx4a65c_size_8abf5 := goodIn_r _ [7, 8, 34, 35, 36] (by decide +kernel) (by decide +kernel)
set_option maxRecDepth 20000 in
theorem gX1_codeAt_Jx4a65c_size_8abf5 : GoodIn wsX1_codeAt (wsV RX1 30 RJx4a65c yJx4a65c_size_8abf5 wsJx4a65c_size_8abf5) := goodIn_app (goodIn_of _ (by decide +kernel)) ggX1_codeAt_Jx4a65c_size_8abf5
set_option maxRecDepth 20000 in
theorem ggX1_codeAt_Jx4a65c_get_915e3 : GoodIn wsX1_codeAt wsJx4a65c_get_915e3 := goodIn_r _ [12, 8, 13, 14, 15, 16, 17, 18, 19, 20, 21, 22, 23, 6, 24, 25, 34, 35, 36] (by decide +kernel) (by decide +kernel)
set_option maxRecDepth 20000 in
theorem gX1_codeAt_Jx4a65c_get_915e3 : GoodIn wsX1_codeAt (wsV RX1 34 RJx4a65c yJx4a65c_get_915e3 wsJx4a65c_get_915e3) := goodIn_app (goodIn_of _ (by decide +kernel)) ggX1_codeAt_Jx4a65c_get_915e3
set_option maxRecDepth 20000 in
theorem ggX1_codeAt_J6_intValue_8abf5 : GoodIn wsX1_codeAt wsJ6_intValue_8abf5 := goodIn_r _ [30, 31, 37] (by decide +kernel) (by decide +kernel)
set_option maxRecDepth 20000 in
theorem gX1_codeAt_J6_intValue_8abf5 : GoodIn wsX1_codeAt (wsV RX1 40 RJ6 yJ6_intValue_8abf5 wsJ6_intValue_8abf5) := goodIn_app (goodIn_of _ (by decide +kernel)) ggX1_codeAt_J6_intValue_8abf5
theorem dX1_codeAt_0 : decode cX1_codeAt 0 = .ok (.iload_n 1, 1) := by decide +kernel
theorem dX1_codeAt_1 : decode cX1_codeAt 1 = .ok (.ifCond .lt 31, 3) := by decide +kernel
theorem dX1_codeAt_4 : decode cX1_codeAt 4 = .ok (.iload_n 1, 1) := by decide +kernel
theorem dX1_codeAt_5 : decode cX1_codeAt 5 = .ok (.aload_n 0, 1) := by decide +kernel
theorem dX1_codeAt_6 : decode cX1_codeAt 6 = .ok (.getfield 16, 3) := by decide +kernel
theorem dX1_codeAt_9 : decode cX1_codeAt 9 = .ok (.invokevirtual 30, 3) := by decide +kernel
theorem dX1_codeAt_12 : decode cX1_codeAt 12 = .ok (.if_icmp .ge 20, 3) := by decide +kernel
theorem dX1_codeAt_15 : decode cX1_codeAt 15 = .ok (.aload_n 0, 1) := by decide +kernel
theorem dX1_codeAt_16 : decode cX1_codeAt 16 = .ok (.getfield 16, 3) := by decide +kernel
theorem dX1_codeAt_19 : decode cX1_codeAt 19 = .ok (.iload_n 1, 1) := by decide +kernel
theorem dX1_codeAt_20 : decode cX1_codeAt 20 = .ok (.invokevirtual 34, 3) := by decide +kernel
theorem dX1_codeAt_23 : decode cX1_codeAt 23 = .ok (.checkcast 38, 3) := by decide +kernel
theorem dX1_codeAt_26 : decode cX1_codeAt 26 = .ok (.invokevirtual 40, 3) := by decide +kernel
theorem dX1_codeAt_29 : decode cX1_codeAt 29 = .ok (.goto 4, 3) := by decide +kernel
theorem dX1_codeAt_32 : decode cX1_codeAt 32 = .ok (.iconst 0, 1) := by decide +kernel
theorem dX1_codeAt_33 : decode cX1_codeAt 33 = .ok (.ireturn, 1) := by decide +kernel
set_option maxRecDepth 20000 in
theorem ggX1_keepIfLeast_X1_codeOf : GoodIn wsX1_keepIfLeast wsX1_codeOf := goodIn_r _ [5] (by decide +kernel) (by decide +kernel)
set_option maxRecDepth 20000 in
theorem gX1_keepIfLeast_X1_codeOf : GoodIn wsX1_keepIfLeast (va_wsS RX1 43 yX1_codeOf wsX1_codeOf) := goodIn_app (goodIn_of _ (by decide +kernel)) ggX1_keepIfLeast_X1_codeOf
set_option maxRecDepth 20000 in
theorem ggX1_keepIfLeast_X3_turned : GoodIn wsX1_keepIfLeast wsX3_turned := goodIn_r _ [9, 10, 11, 12, 8, 13, 14, 15, 16, 17, 18, 19] (by decide +kernel) (by decide +kernel)
set_option maxRecDepth 20000 in
theorem gX1_keepIfLeast_X3_turned : GoodIn wsX1_keepIfLeast (va_wsS RX1 47 yX3_turned wsX3_turned) := goodIn_app (goodIn_of _ (by decide +kernel)) ggX1_keepIfLeast_X3_turned
set_option maxRecDepth 20000 in
theorem ggX1_keepIfLeast_J6_valueOf_2dffe : GoodIn wsX1_keepIfLeast wsJ6_valueOf_2dffe := goodIn_r _ [23, 24, 25, 26, 27, 22, 28, 29, 30, 31, 32, 33, 34, 35, 36, 37, 38, 97] (by decide +kernel) (by decide +kernel)
set_option maxRecDepth 20000 in
theorem gX1_keepIfLeast_J6_valueOf_2dffe : GoodIn wsX1_keepIfLeast (va_wsS RX1 51 yJ6_valueOf_2dffe wsJ6_valueOf_2dffe) := goodIn_app (goodIn_of _ (by decide +kernel)) ggX1_keepIfLeast_J6_valueOf_2dffe
set_option maxRecDepth 20000 in
theorem ggX1_keepIfLeast_Jx4a65c_add_9ea2d : GoodIn wsX1_keepIfLeast wsJx4a65c_add_9ea2d := goodIn_r _ [43, 44, 45, 46, 47, 48, 49, 50, 42, 51, 52, 53, 54, 55, 56, 57, 58, 59, 60, 61, 62, 63, 64, 65, 66, 67, 68, 69, 70, 71, 72, 73, 74, 75, 76, 77, 78, 79, 80, 81, 82, 83, 84, 85, 86, 87, 88, 89, 90, 91, 92, 93, 94, 98, 99, 100] (by decide +kernel) (by decide +kernel)
set_option maxRecDepth 20000 in
theorem gX1_keepIfLeast_Jx4a65c_add_9ea2d : GoodIn wsX1_keepIfLeast (wsV RX1 55 RJx4a65c yJx4a65c_add_9ea2d wsJx4a65c_add_9ea2d) := goodIn_app (goodIn_of _ (by decide +kernel)) ggX1_keepIfLeast_Jx4a65c_add_9ea2d
theorem dX1_keepIfLeast_0 : decode cX1_keepIfLeast 0 = .ok (.iload_n 1, 1) := by decide +kernel
theorem dX1_keepIfLeast_1 : decode cX1_keepIfLeast 1 = .ok (.i2l, 1) := by decide +kernel
theorem dX1_keepIfLeast_2 : decode cX1_keepIfLeast 2 = .ok (.iload_n 2, 1) := by decide +kernel
theorem dX1_keepIfLeast_3 : decode cX1_keepIfLeast 3 = .ok (.i2l, 1) := by decide +kernel
theorem dX1_keepIfLeast_4 : decode cX1_keepIfLeast 4 = .ok (.invokestatic 43, 3) := by decide +kernel
theorem dX1_keepIfLeast_7 : decode cX1_keepIfLeast 7 = .ok (.istore 4, 2) := by decide +kernel
theorem dX1_keepIfLeast_9 : decode cX1_keepIfLeast 9 = .ok (.iconst 0, 1) := by decide +kernel
theorem dX1_keepIfLeast_10 : decode cX1_keepIfLeast 10 = .ok (.istore 5, 2) := by decide +kernel
theorem dX1_keepIfLeast_12 : decode cX1_keepIfLeast 12 = .ok (.iload 5, 2) := by decide +kernel
theorem dX1_keepIfLeast_14 : decode cX1_keepIfLeast 14 = .ok (.bipush 8, 2) := by decide +kernel
theorem dX1_keepIfLeast_16 : decode cX1_keepIfLeast 16 = .ok (.if_icmp .ge 74, 3) := by decide +kernel
theorem dX1_keepIfLeast_19 : decode cX1_keepIfLeast 19 = .ok (.iconst 0, 1) := by decide +kernel
theorem dX1_keepIfLeast_20 : decode cX1_keepIfLeast 20 = .ok (.istore 6, 2) := by decide +kernel
theorem dX1_keepIfLeast_22 : decode cX1_keepIfLeast 22 = .ok (.iload 6, 2) := by decide +kernel
theorem dX1_keepIfLeast_24 : decode cX1_keepIfLeast 24 = .ok (.iconst 4, 1) := by decide +kernel
theorem dX1_keepIfLeast_25 : decode cX1_keepIfLeast 25 = .ok (.if_icmp .ge 59, 3) := by decide +kernel
theorem dX1_keepIfLeast_28 : decode cX1_keepIfLeast 28 = .ok (.iload_n 1, 1) := by decide +kernel
theorem dX1_keepIfLeast_29 : decode cX1_keepIfLeast 29 = .ok (.i2l, 1) := by decide +kernel
theorem dX1_keepIfLeast_30 : decode cX1_keepIfLeast 30 = .ok (.iload_n 3, 1) := by decide +kernel
theorem dX1_keepIfLeast_31 : decode cX1_keepIfLeast 31 = .ok (.iload 5, 2) := by decide +kernel
theorem dX1_keepIfLeast_33 : decode cX1_keepIfLeast 33 = .ok (.invokestatic 47, 3) := by decide +kernel
theorem dX1_keepIfLeast_36 : decode cX1_keepIfLeast 36 = .ok (.lstore 7, 2) := by decide +kernel
theorem dX1_keepIfLeast_38 : decode cX1_keepIfLeast 38 = .ok (.iload_n 2, 1) := by decide +kernel
theorem dX1_keepIfLeast_39 : decode cX1_keepIfLeast 39 = .ok (.i2l, 1) := by decide +kernel
theorem dX1_keepIfLeast_40 : decode cX1_keepIfLeast 40 = .ok (.iload_n 3, 1) := by decide +kernel
theorem dX1_keepIfLeast_41 : decode cX1_keepIfLeast 41 = .ok (.iload 5, 2) := by decide +kernel
theorem dX1_keepIfLeast_43 : decode cX1_keepIfLeast 43 = .ok (.iconst 4, 1) := by decide +kernel
theorem dX1_keepIfLeast_44 : decode cX1_keepIfLeast 44 = .ok (.iand, 1) := by decide +kernel
theorem dX1_keepIfLeast_45 : decode cX1_keepIfLeast 45 = .ok (.iload 6, 2) := by decide +kernel
theorem dX1_keepIfLeast_47 : decode cX1_keepIfLeast 47 = .ok (.ior, 1) := by decide +kernel
theorem dX1_keepIfLeast_48 : decode cX1_keepIfLeast 48 = .ok (.invokestatic 47, 3) := by decide +kernel
theorem dX1_keepIfLeast_51 : decode cX1_keepIfLeast 51 = .ok (.lstore 9, 2) := by decide +kernel
theorem dX1_keepIfLeast_53 : decode cX1_keepIfLeast 53 = .ok (.lload 7, 2) := by decide +kernel
theorem dX1_keepIfLeast_55 : decode cX1_keepIfLeast 55 = .ok (.lload 9, 2) := by decide +kernel
theorem dX1_keepIfLeast_57 : decode cX1_keepIfLeast 57 = .ok (.invokestatic 43, 3) := by decide +kernel
theorem dX1_keepIfLeast_60 : decode cX1_keepIfLeast 60 = .ok (.iload 4, 2) := by decide +kernel
theorem dX1_keepIfLeast_62 : decode cX1_keepIfLeast 62 = .ok (.if_icmp .lt 15, 3) := by decide +kernel
theorem dX1_keepIfLeast_65 : decode cX1_keepIfLeast 65 = .ok (.lload 9, 2) := by decide +kernel
theorem dX1_keepIfLeast_67 : decode cX1_keepIfLeast 67 = .ok (.lload 7, 2) := by decide +kernel
theorem dX1_keepIfLeast_69 : decode cX1_keepIfLeast 69 = .ok (.invokestatic 43, 3) := by decide +kernel
theorem dX1_keepIfLeast_72 : decode cX1_keepIfLeast 72 = .ok (.iload 4, 2) := by decide +kernel
theorem dX1_keepIfLeast_74 : decode cX1_keepIfLeast 74 = .ok (.if_icmp .ge 4, 3) := by decide +kernel
theorem dX1_keepIfLeast_77 : decode cX1_keepIfLeast 77 = .ok (.return_, 1) := by decide +kernel
theorem dX1_keepIfLeast_78 : decode cX1_keepIfLeast 78 = .ok (.iinc 6 1, 3) := by decide +kernel
theorem dX1_keepIfLeast_81 : decode cX1_keepIfLeast 81 = .ok (.goto (-59), 3) := by decide +kernel
theorem dX1_keepIfLeast_84 : decode cX1_keepIfLeast 84 = .ok (.iinc 5 1, 3) := by decide +kernel
theorem dX1_keepIfLeast_87 : decode cX1_keepIfLeast 87 = .ok (.goto (-75), 3) := by decide +kernel
theorem dX1_keepIfLeast_90 : decode cX1_keepIfLeast 90 = .ok (.aload_n 0, 1) := by decide +kernel
theorem dX1_keepIfLeast_91 : decode cX1_keepIfLeast 91 = .ok (.getfield 16, 3) := by decide +kernel
theorem dX1_keepIfLeast_94 : decode cX1_keepIfLeast 94 = .ok (.iload 4, 2) := by decide +kernel
theorem dX1_keepIfLeast_96 : decode cX1_keepIfLeast 96 = .ok (.invokestatic 51, 3) := by decide +kernel
theorem dX1_keepIfLeast_99 : decode cX1_keepIfLeast 99 = .ok (.invokevirtual 55, 3) := by decide +kernel
theorem dX1_keepIfLeast_102 : decode cX1_keepIfLeast 102 = .ok (.pop, 1) := by decide +kernel
theorem dX1_keepIfLeast_103 : decode cX1_keepIfLeast 103 = .ok (.return_, 1) := by decide +kernel
theorem dX1_codeOf_0 : decode cX1_codeOf 0 = .ok (.sipush 1000, 3) := by decide +kernel
theorem dX1_codeOf_3 : decode cX1_codeOf 3 = .ok (.lload_n 0, 1) := by decide +kernel
theorem dX1_codeOf_4 : decode cX1_codeOf 4 = .ok (.l2i, 1) := by decide +kernel
theorem dX1_codeOf_5 : decode cX1_codeOf 5 = .ok (.imul, 1) := by decide +kernel
theorem dX1_codeOf_6 : decode cX1_codeOf 6 = .ok (.lload_n 2, 1) := by decide +kernel
theorem dX1_codeOf_7 : decode cX1_codeOf 7 = .ok (.l2i, 1) := by decide +kernel
theorem dX1_codeOf_8 : decode cX1_codeOf 8 = .ok (.iadd, 1) := by decide +kernel
theorem dX1_codeOf_9 : decode cX1_codeOf 9 = .ok (.ireturn, 1) := by decide +kernel
theorem dX2_init_0 : decode cX2_init 0 = .ok (.aload_n 0, 1) := by decide +kernel
theorem dX2_init_1 : decode cX2_init 1 = .ok (.invokespecial 1, 3) := by decide +kernel
theorem dX2_init_4 : decode cX2_init 4 = .ok (.aload_n 0, 1) := by decide +kernel
theorem dX2_init_5 : decode cX2_init 5 = .ok (.iload_n 1, 1) := by decide +kernel
theorem dX2_init_6 : decode cX2_init 6 = .ok (.putfield 7, 3) := by decide +kernel
theorem dX2_init_9 : decode cX2_init 9 = .ok (.aload_n 0, 1) := by decide +kernel
theorem dX2_init_10 : decode cX2_init 10 = .ok (.iload_n 2, 1) := by decide +kernel
theorem dX2_init_11 : decode cX2_init 11 = .ok (.iconst 0, 1) := by decide +kernel
theorem dX2_init_12 : decode cX2_init 12 = .ok (.invokestatic 13, 3) := by decide +kernel
theorem dX2_init_15 : decode cX2_init 15 = .ok (.newarray .int, 2) := by decide +kernel
theorem dX2_init_17 : decode cX2_init 17 = .ok (.putfield 19, 3) := by decide +kernel
theorem dX2_init_20 : decode cX2_init 20 = .ok (.return_, 1) := by decide +kernel
theorem dX2_size_0 : decode cX2_size 0 = .ok (.aload_n 0, 1) := by decide +kernel
theorem dX2_size_1 : decode cX2_size 1 = .ok (.getfield 19, 3) := by decide +kernel
theorem dX2_size_4 : decode cX2_size 4 = .ok (.arraylength, 1) := by decide +kernel
theorem dX2_size_5 : decode cX2_size 5 = .ok (.ireturn, 1) := by decide +kernel
theorem dX2_has_0 : decode cX2_has 0 = .ok (.iload_n 1, 1) := by decide +kernel
theorem dX2_has_1 : decode cX2_has 1 = .ok (.ifCond .lt 16, 3) := by decide +kernel
theorem dX2_has_4 : decode cX2_has 4 = .ok (.iload_n 1, 1) := by decide +kernel
theorem dX2_has_5 : decode cX2_has 5 = .ok (.aload_n 0, 1) := by decide +kernel
theorem dX2_has_6 : decode cX2_has 6 = .ok (.getfield 19, 3) := by decide +kernel
theorem dX2_has_9 : decode cX2_has 9 = .ok (.arraylength, 1) := by decide +kernel
theorem dX2_has_10 : decode cX2_has 10 = .ok (.if_icmp .ge 7, 3) := by decide +kernel
theorem dX2_has_13 : decode cX2_has 13 = .ok (.iconst 1, 1) := by decide +kernel
theorem dX2_has_14 : decode cX2_has 14 = .ok (.goto 4, 3) := by decide +kernel
theorem dX2_has_17 : decode cX2_has 17 = .ok (.iconst 0, 1) := by decide +kernel
theorem dX2_has_18 : decode cX2_has 18 = .ok (.ireturn, 1) := by decide +kernel
set_option maxRecDepth 20000 in
theorem ggX2_read_X2_has : GoodIn wsX2_read wsX2_has := goodIn_r _ [6, 1, 7, 8] (by decide +kernel) (by decide +kernel)
set_option maxRecDepth 20000 in
theorem gX2_read_X2_has : GoodIn wsX2_read (wsV RX2 23 RX2 yX2_has wsX2_has) := goodIn_app (goodIn_of _ (by decide +kernel)) ggX2_read_X2_has
theorem dX2_read_0 : decode cX2_read 0 = .ok (.aload_n 0, 1) := by decide +kernel
theorem dX2_read_1 : decode cX2_read 1 = .ok (.iload_n 1, 1) := by decide +kernel
theorem dX2_read_2 : decode cX2_read 2 = .ok (.invokevirtual 23, 3) := by decide +kernel
theorem dX2_read_5 : decode cX2_read 5 = .ok (.ifCond .eq 12, 3) := by decide +kernel
theorem dX2_read_8 : decode cX2_read 8 = .ok (.aload_n 0, 1) := by decide +kernel
theorem dX2_read_9 : decode cX2_read 9 = .ok (.getfield 19, 3) := by decide +kernel
theorem dX2_read_12 : decode cX2_read 12 = .ok (.iload_n 1, 1) := by decide +kernel
theorem dX2_read_13 : decode cX2_read 13 = .ok (.iaload, 1) := by decide +kernel
theorem dX2_read_14 : decode cX2_read 14 = .ok (.goto 4, 3) := by decide +kernel
theorem dX2_read_17 : decode cX2_read 17 = .ok (.iconst 0, 1) := by decide +kernel
theorem dX2_read_18 : decode cX2_read 18 = .ok (.ireturn, 1) := by decide +kernel
set_option maxRecDepth 20000 in
theorem ggX2_write_X2_has : GoodIn wsX2_write wsX2_has := goodIn_r _ [6, 1, 12, 13] (by decide +kernel) (by decide +kernel)
set_option maxRecDepth 20000 in
theorem gX2_write_X2_has : GoodIn wsX2_write (wsV RX2 23 RX2 yX2_has wsX2_has) := goodIn_app (goodIn_of _ (by decide +kernel)) ggX2_write_X2_has
set_option maxRecDepth 20000 in
theorem ggX2_write_X2_cut : GoodIn wsX2_write wsX2_cut := goodIn_r _ [10, 11, 12, 13] (by decide +kernel) (by decide +kernel)
set_option maxRecDepth 20000 in
theorem gX2_write_X2_cut : GoodIn wsX2_write (wsV RX2 27 RX2 yX2_cut wsX2_cut) := goodIn_app (goodIn_of _ (by decide +kernel)) ggX2_write_X2_cut
theorem dX2_write_0 : decode cX2_write 0 = .ok (.aload_n 0, 1) := by decide +kernel
theorem dX2_write_1 : decode cX2_write 1 = .ok (.iload_n 1, 1) := by decide +kernel
theorem dX2_write_2 : decode cX2_write 2 = .ok (.invokevirtual 23, 3) := by decide +kernel
theorem dX2_write_5 : decode cX2_write 5 = .ok (.ifCond .eq 14, 3) := by decide +kernel
theorem dX2_write_8 : decode cX2_write 8 = .ok (.aload_n 0, 1) := by decide +kernel
theorem dX2_write_9 : decode cX2_write 9 = .ok (.getfield 19, 3) := by decide +kernel
theorem dX2_write_12 : decode cX2_write 12 = .ok (.iload_n 1, 1) := by decide +kernel
theorem dX2_write_13 : decode cX2_write 13 = .ok (.aload_n 0, 1) := by decide +kernel
theorem dX2_write_14 : decode cX2_write 14 = .ok (.iload_n 2, 1) := by decide +kernel
theorem dX2_write_15 : decode cX2_write 15 = .ok (.invokevirtual 27, 3) := by decide +kernel
theorem dX2_write_18 : decode cX2_write 18 = .ok (.iastore, 1) := by decide +kernel
theorem dX2_write_19 : decode cX2_write 19 = .ok (.return_, 1) := by decide +kernel
theorem dX2_cut_0 : decode cX2_cut 0 = .ok (.aload_n 0, 1) := by decide +kernel
theorem dX2_cut_1 : decode cX2_cut 1 = .ok (.getfield 7, 3) := by decide +kernel
theorem dX2_cut_4 : decode cX2_cut 4 = .ok (.ifCond .ne 6, 3) := by decide +kernel
theorem dX2_cut_7 : decode cX2_cut 7 = .ok (.iload_n 1, 1) := by decide +kernel
theorem dX2_cut_8 : decode cX2_cut 8 = .ok (.i2b, 1) := by decide +kernel
theorem dX2_cut_9 : decode cX2_cut 9 = .ok (.ireturn, 1) := by decide +kernel
theorem dX2_cut_10 : decode cX2_cut 10 = .ok (.aload_n 0, 1) := by decide +kernel
theorem dX2_cut_11 : decode cX2_cut 11 = .ok (.getfield 7, 3) := by decide +kernel
theorem dX2_cut_14 : decode cX2_cut 14 = .ok (.iconst 1, 1) := by decide +kernel
theorem dX2_cut_15 : decode cX2_cut 15 = .ok (.if_icmp .ne 8, 3) := by decide +kernel
theorem dX2_cut_18 : decode cX2_cut 18 = .ok (.iload_n 1, 1) := by decide +kernel
theorem dX2_cut_19 : decode cX2_cut 19 = .ok (.i2s, 1) := by decide +kernel
theorem dX2_cut_20 : decode cX2_cut 20 = .ok (.goto 4, 3) := by decide +kernel
theorem dX2_cut_23 : decode cX2_cut 23 = .ok (.iload_n 1, 1) := by decide +kernel
theorem dX2_cut_24 : decode cX2_cut 24 = .ok (.ireturn, 1) := by decide +kernel
theorem dX3_mask_0 : decode cX3_mask 0 = .ok (.lconst 1, 1) := by decide +kernel
theorem dX3_mask_1 : decode cX3_mask 1 = .ok (.iload_n 0, 1) := by decide +kernel
theorem dX3_mask_2 : decode cX3_mask 2 = .ok (.lshl, 1) := by decide +kernel
theorem dX3_mask_3 : decode cX3_mask 3 = .ok (.lconst 1, 1) := by decide +kernel
theorem dX3_mask_4 : decode cX3_mask 4 = .ok (.lsub, 1) := by decide +kernel
theorem dX3_mask_5 : decode cX3_mask 5 = .ok (.lreturn, 1) := by decide +kernel
theorem dX3_sign_0 : decode cX3_sign 0 = .ok (.lload_n 0, 1) := by decide +kernel
theorem dX3_sign_1 : decode cX3_sign 1 = .ok (.iload_n 2, 1) := by decide +kernel
theorem dX3_sign_2 : decode cX3_sign 2 = .ok (.lushr, 1) := by decide +kernel
theorem dX3_sign_3 : decode cX3_sign 3 = .ok (.lconst 1, 1) := by decide +kernel
theorem dX3_sign_4 : decode cX3_sign 4 = .ok (.land, 1) := by decide +kernel
theorem dX3_sign_5 : decode cX3_sign 5 = .ok (.lconst 0, 1) := by decide +kernel
theorem dX3_sign_6 : decode cX3_sign 6 = .ok (.lcmp, 1) := by decide +kernel
theorem dX3_sign_7 : decode cX3_sign 7 = .ok (.ifCond .ne 7, 3) := by decide +kernel
theorem dX3_sign_10 : decode cX3_sign 10 = .ok (.iconst 1, 1) := by decide +kernel
theorem dX3_sign_11 : decode cX3_sign 11 = .ok (.goto 4, 3) := by decide +kernel
theorem dX3_sign_14 : decode cX3_sign 14 = .ok (.iconst (-1), 1) := by decide +kernel
theorem dX3_sign_15 : decode cX3_sign 15 = .ok (.ireturn, 1) := by decide +kernel
set_option maxRecDepth 20000 in
theorem ggX3_openSum_X3_mask : GoodIn wsX3_openSum wsX3_mask := goodIn_r _ [4] (by decide +kernel) (by decide +kernel)
set_option maxRecDepth 20000 in
theorem gX3_openSum_X3_mask : GoodIn wsX3_openSum (va_wsS RX3 7 yX3_mask wsX3_mask) := goodIn_app (goodIn_of _ (by decide +kernel)) ggX3_openSum_X3_mask
set_option maxRecDepth 20000 in
theorem ggX3_openSum_J13_bitCount_95d88 : GoodIn wsX3_openSum wsJ13_bitCount_95d88 := goodIn_r _ [8, 9, 10, 11] (by decide +kernel) (by decide +kernel)
set_option maxRecDepth 20000 in
theorem gX3_openSum_J13_bitCount_95d88 : GoodIn wsX3_openSum (va_wsS RX3 13 yJ13_bitCount_95d88 wsJ13_bitCount_95d88) := goodIn_app (goodIn_of _ (by decide +kernel)) ggX3_openSum_J13_bitCount_95d88
theorem dX3_openSum_0 : decode cX3_openSum 0 = .ok (.iload_n 2, 1) := by decide +kernel
theorem dX3_openSum_1 : decode cX3_openSum 1 = .ok (.iload_n 3, 1) := by decide +kernel
theorem dX3_openSum_2 : decode cX3_openSum 2 = .ok (.isub, 1) := by decide +kernel
theorem dX3_openSum_3 : decode cX3_openSum 3 = .ok (.istore 4, 2) := by decide +kernel
theorem dX3_openSum_5 : decode cX3_openSum 5 = .ok (.iload 4, 2) := by decide +kernel
theorem dX3_openSum_7 : decode cX3_openSum 7 = .ok (.iconst 2, 1) := by decide +kernel
theorem dX3_openSum_8 : decode cX3_openSum 8 = .ok (.lload_n 0, 1) := by decide +kernel
theorem dX3_openSum_9 : decode cX3_openSum 9 = .ok (.lload_n 0, 1) := by decide +kernel
theorem dX3_openSum_10 : decode cX3_openSum 10 = .ok (.iload_n 3, 1) := by decide +kernel
theorem dX3_openSum_11 : decode cX3_openSum 11 = .ok (.lushr, 1) := by decide +kernel
theorem dX3_openSum_12 : decode cX3_openSum 12 = .ok (.lxor, 1) := by decide +kernel
theorem dX3_openSum_13 : decode cX3_openSum 13 = .ok (.iload 4, 2) := by decide +kernel
theorem dX3_openSum_15 : decode cX3_openSum 15 = .ok (.invokestatic 7, 3) := by decide +kernel
theorem dX3_openSum_18 : decode cX3_openSum 18 = .ok (.land, 1) := by decide +kernel
theorem dX3_openSum_19 : decode cX3_openSum 19 = .ok (.invokestatic 13, 3) := by decide +kernel
theorem dX3_openSum_22 : decode cX3_openSum 22 = .ok (.imul, 1) := by decide +kernel
theorem dX3_openSum_23 : decode cX3_openSum 23 = .ok (.isub, 1) := by decide +kernel
theorem dX3_openSum_24 : decode cX3_openSum 24 = .ok (.ireturn, 1) := by decide +kernel
set_option maxRecDepth 20000 in
theorem ggX3_roundSum_X3_mask : GoodIn wsX3_roundSum wsX3_mask := goodIn_r _ [4] (by decide +kernel) (by decide +kernel)
set_option maxRecDepth 20000 in
theorem gX3_roundSum_X3_mask : GoodIn wsX3_roundSum (va_wsS RX3 7 yX3_mask wsX3_mask) := goodIn_app (goodIn_of _ (by decide +kernel)) ggX3_roundSum_X3_mask
set_option maxRecDepth 20000 in
theorem ggX3_roundSum_J13_bitCount_95d88 : GoodIn wsX3_roundSum wsJ13_bitCount_95d88 := goodIn_r _ [8, 9, 10, 11] (by decide +kernel) (by decide +kernel)
set_option maxRecDepth 20000 in
theorem gX3_roundSum_J13_bitCount_95d88 : GoodIn wsX3_roundSum (va_wsS RX3 13 yJ13_bitCount_95d88 wsJ13_bitCount_95d88) := goodIn_app (goodIn_of _ (by decide +kernel)) ggX3_roundSum_J13_bitCount_95d88
theorem dX3_roundSum_0 : decode cX3_roundSum 0 = .ok (.lload_n 0, 1) := by decide +kernel
theorem dX3_roundSum_1 : decode cX3_roundSum 1 = .ok (.iload_n 3, 1) := by decide +kernel
theorem dX3_roundSum_2 : decode cX3_roundSum 2 = .ok (.lushr, 1) := by decide +kernel
theorem dX3_roundSum_3 : decode cX3_roundSum 3 = .ok (.lload_n 0, 1) := by decide +kernel
theorem dX3_roundSum_4 : decode cX3_roundSum 4 = .ok (.iload_n 2, 1) := by decide +kernel
theorem dX3_roundSum_5 : decode cX3_roundSum 5 = .ok (.iload_n 3, 1) := by decide +kernel
theorem dX3_roundSum_6 : decode cX3_roundSum 6 = .ok (.isub, 1) := by decide +kernel
theorem dX3_roundSum_7 : decode cX3_roundSum 7 = .ok (.lshl, 1) := by decide +kernel
theorem dX3_roundSum_8 : decode cX3_roundSum 8 = .ok (.lor, 1) := by decide +kernel
theorem dX3_roundSum_9 : decode cX3_roundSum 9 = .ok (.iload_n 2, 1) := by decide +kernel
theorem dX3_roundSum_10 : decode cX3_roundSum 10 = .ok (.invokestatic 7, 3) := by decide +kernel
theorem dX3_roundSum_13 : decode cX3_roundSum 13 = .ok (.land, 1) := by decide +kernel
theorem dX3_roundSum_14 : decode cX3_roundSum 14 = .ok (.lstore 4, 2) := by decide +kernel
theorem dX3_roundSum_16 : decode cX3_roundSum 16 = .ok (.iload_n 2, 1) := by decide +kernel
theorem dX3_roundSum_17 : decode cX3_roundSum 17 = .ok (.iconst 2, 1) := by decide +kernel
theorem dX3_roundSum_18 : decode cX3_roundSum 18 = .ok (.lload_n 0, 1) := by decide +kernel
theorem dX3_roundSum_19 : decode cX3_roundSum 19 = .ok (.lload 4, 2) := by decide +kernel
theorem dX3_roundSum_21 : decode cX3_roundSum 21 = .ok (.lxor, 1) := by decide +kernel
theorem dX3_roundSum_22 : decode cX3_roundSum 22 = .ok (.invokestatic 13, 3) := by decide +kernel
theorem dX3_roundSum_25 : decode cX3_roundSum 25 = .ok (.imul, 1) := by decide +kernel
theorem dX3_roundSum_26 : decode cX3_roundSum 26 = .ok (.isub, 1) := by decide +kernel
theorem dX3_roundSum_27 : decode cX3_roundSum 27 = .ok (.ireturn, 1) := by decide +kernel
set_option maxRecDepth 20000 in
theorem ggX3_peak_X3_openSum : GoodIn wsX3_peak wsX3_openSum := goodIn_r _ [11, 12, 13, 10, 14, 15, 16, 17, 18, 19, 20, 21] (by decide +kernel) (by decide +kernel)
set_option maxRecDepth 20000 in
theorem gX3_peak_X3_openSum : GoodIn wsX3_peak (va_wsS RX3 19 yX3_openSum wsX3_openSum) := goodIn_app (goodIn_of _ (by decide +kernel)) ggX3_peak_X3_openSum
theorem dX3_peak_0 : decode cX3_peak 0 = .ok (.iconst 0, 1) := by decide +kernel
theorem dX3_peak_1 : decode cX3_peak 1 = .ok (.istore_n 3, 1) := by decide +kernel
theorem dX3_peak_2 : decode cX3_peak 2 = .ok (.iconst 1, 1) := by decide +kernel
theorem dX3_peak_3 : decode cX3_peak 3 = .ok (.istore 4, 2) := by decide +kernel
theorem dX3_peak_5 : decode cX3_peak 5 = .ok (.iload 4, 2) := by decide +kernel
theorem dX3_peak_7 : decode cX3_peak 7 = .ok (.iload_n 2, 1) := by decide +kernel
theorem dX3_peak_8 : decode cX3_peak 8 = .ok (.if_icmp .ge 24, 3) := by decide +kernel
theorem dX3_peak_11 : decode cX3_peak 11 = .ok (.iload_n 3, 1) := by decide +kernel
theorem dX3_peak_12 : decode cX3_peak 12 = .ok (.lload_n 0, 1) := by decide +kernel
theorem dX3_peak_13 : decode cX3_peak 13 = .ok (.iload_n 2, 1) := by decide +kernel
theorem dX3_peak_14 : decode cX3_peak 14 = .ok (.iload 4, 2) := by decide +kernel
theorem dX3_peak_16 : decode cX3_peak 16 = .ok (.invokestatic 19, 3) := by decide +kernel
theorem dX3_peak_19 : decode cX3_peak 19 = .ok (.invokestatic 23, 3) := by decide +kernel
theorem dX3_peak_22 : decode cX3_peak 22 = .ok (.invokestatic 29, 3) := by decide +kernel
theorem dX3_peak_25 : decode cX3_peak 25 = .ok (.istore_n 3, 1) := by decide +kernel
theorem dX3_peak_26 : decode cX3_peak 26 = .ok (.iinc 4 1, 3) := by decide +kernel
theorem dX3_peak_29 : decode cX3_peak 29 = .ok (.goto (-24), 3) := by decide +kernel
theorem dX3_peak_32 : decode cX3_peak 32 = .ok (.iload_n 3, 1) := by decide +kernel
theorem dX3_peak_33 : decode cX3_peak 33 = .ok (.ireturn, 1) := by decide +kernel
set_option maxRecDepth 20000 in
theorem ggX3_energy_X3_openSum : GoodIn wsX3_energy wsX3_openSum := goodIn_r _ [4, 5, 6, 3, 7, 8, 9, 10, 11, 12, 13, 14] (by decide +kernel) (by decide +kernel)
set_option maxRecDepth 20000 in
theorem gX3_energy_X3_openSum : GoodIn wsX3_energy (va_wsS RX3 19 yX3_openSum wsX3_openSum) := goodIn_app (goodIn_of _ (by decide +kernel)) ggX3_energy_X3_openSum
theorem dX3_energy_0 : decode cX3_energy 0 = .ok (.iconst 0, 1) := by decide +kernel
theorem dX3_energy_1 : decode cX3_energy 1 = .ok (.istore_n 3, 1) := by decide +kernel
theorem dX3_energy_2 : decode cX3_energy 2 = .ok (.iconst 1, 1) := by decide +kernel
theorem dX3_energy_3 : decode cX3_energy 3 = .ok (.istore 4, 2) := by decide +kernel
theorem dX3_energy_5 : decode cX3_energy 5 = .ok (.iload 4, 2) := by decide +kernel
theorem dX3_energy_7 : decode cX3_energy 7 = .ok (.iload_n 2, 1) := by decide +kernel
theorem dX3_energy_8 : decode cX3_energy 8 = .ok (.if_icmp .ge 26, 3) := by decide +kernel
theorem dX3_energy_11 : decode cX3_energy 11 = .ok (.lload_n 0, 1) := by decide +kernel
theorem dX3_energy_12 : decode cX3_energy 12 = .ok (.iload_n 2, 1) := by decide +kernel
theorem dX3_energy_13 : decode cX3_energy 13 = .ok (.iload 4, 2) := by decide +kernel
theorem dX3_energy_15 : decode cX3_energy 15 = .ok (.invokestatic 19, 3) := by decide +kernel
theorem dX3_energy_18 : decode cX3_energy 18 = .ok (.istore 5, 2) := by decide +kernel
theorem dX3_energy_20 : decode cX3_energy 20 = .ok (.iload_n 3, 1) := by decide +kernel
theorem dX3_energy_21 : decode cX3_energy 21 = .ok (.iload 5, 2) := by decide +kernel
theorem dX3_energy_23 : decode cX3_energy 23 = .ok (.iload 5, 2) := by decide +kernel
theorem dX3_energy_25 : decode cX3_energy 25 = .ok (.imul, 1) := by decide +kernel
theorem dX3_energy_26 : decode cX3_energy 26 = .ok (.iadd, 1) := by decide +kernel
theorem dX3_energy_27 : decode cX3_energy 27 = .ok (.istore_n 3, 1) := by decide +kernel
theorem dX3_energy_28 : decode cX3_energy 28 = .ok (.iinc 4 1, 3) := by decide +kernel
theorem dX3_energy_31 : decode cX3_energy 31 = .ok (.goto (-26), 3) := by decide +kernel
theorem dX3_energy_34 : decode cX3_energy 34 = .ok (.iload_n 3, 1) := by decide +kernel
theorem dX3_energy_35 : decode cX3_energy 35 = .ok (.ireturn, 1) := by decide +kernel
set_option maxRecDepth 20000 in
theorem ggX3_total_J13_bitCount_95d88 : GoodIn wsX3_total wsJ13_bitCount_95d88 := goodIn_r _ [4, 5, 6, 7] (by decide +kernel) (by decide +kernel)
set_option maxRecDepth 20000 in
theorem gX3_total_J13_bitCount_95d88 : GoodIn wsX3_total (va_wsS RX3 13 yJ13_bitCount_95d88 wsJ13_bitCount_95d88) := goodIn_app (goodIn_of _ (by decide +kernel)) ggX3_total_J13_bitCount_95d88
theorem dX3_total_0 : decode cX3_total 0 = .ok (.iload_n 2, 1) := by decide +kernel
theorem dX3_total_1 : decode cX3_total 1 = .ok (.iconst 2, 1) := by decide +kernel
theorem dX3_total_2 : decode cX3_total 2 = .ok (.lload_n 0, 1) := by decide +kernel
theorem dX3_total_3 : decode cX3_total 3 = .ok (.invokestatic 13, 3) := by decide +kernel
theorem dX3_total_6 : decode cX3_total 6 = .ok (.imul, 1) := by decide +kernel
theorem dX3_total_7 : decode cX3_total 7 = .ok (.isub, 1) := by decide +kernel
theorem dX3_total_8 : decode cX3_total 8 = .ok (.ireturn, 1) := by decide +kernel
set_option maxRecDepth 20000 in
theorem ggX3_changes_X3_mask : GoodIn wsX3_changes wsX3_mask := goodIn_r _ [4] (by decide +kernel) (by decide +kernel)
set_option maxRecDepth 20000 in
theorem gX3_changes_X3_mask : GoodIn wsX3_changes (va_wsS RX3 7 yX3_mask wsX3_mask) := goodIn_app (goodIn_of _ (by decide +kernel)) ggX3_changes_X3_mask
set_option maxRecDepth 20000 in
theorem ggX3_changes_J13_bitCount_95d88 : GoodIn wsX3_changes wsJ13_bitCount_95d88 := goodIn_r _ [8, 9, 10, 11] (by decide +kernel) (by decide +kernel)
set_option maxRecDepth 20000 in
theorem gX3_changes_J13_bitCount_95d88 : GoodIn wsX3_changes (va_wsS RX3 13 yJ13_bitCount_95d88 wsJ13_bitCount_95d88) := goodIn_app (goodIn_of _ (by decide +kernel)) ggX3_changes_J13_bitCount_95d88
theorem dX3_changes_0 : decode cX3_changes 0 = .ok (.lload_n 0, 1) := by decide +kernel
theorem dX3_changes_1 : decode cX3_changes 1 = .ok (.lload_n 0, 1) := by decide +kernel
theorem dX3_changes_2 : decode cX3_changes 2 = .ok (.iconst 1, 1) := by decide +kernel
theorem dX3_changes_3 : decode cX3_changes 3 = .ok (.lushr, 1) := by decide +kernel
theorem dX3_changes_4 : decode cX3_changes 4 = .ok (.lxor, 1) := by decide +kernel
theorem dX3_changes_5 : decode cX3_changes 5 = .ok (.iload_n 2, 1) := by decide +kernel
theorem dX3_changes_6 : decode cX3_changes 6 = .ok (.iconst 1, 1) := by decide +kernel
theorem dX3_changes_7 : decode cX3_changes 7 = .ok (.isub, 1) := by decide +kernel
theorem dX3_changes_8 : decode cX3_changes 8 = .ok (.invokestatic 7, 3) := by decide +kernel
theorem dX3_changes_11 : decode cX3_changes 11 = .ok (.land, 1) := by decide +kernel
theorem dX3_changes_12 : decode cX3_changes 12 = .ok (.invokestatic 13, 3) := by decide +kernel
theorem dX3_changes_15 : decode cX3_changes 15 = .ok (.ireturn, 1) := by decide +kernel
set_option maxRecDepth 20000 in
theorem ggX3_firstLeftOpen_X3_openSum : GoodIn wsX3_firstLeftOpen wsX3_openSum := goodIn_r _ [4, 5, 6, 3, 7, 8, 9, 10, 11, 12, 13, 14] (by decide +kernel) (by decide +kernel)
set_option maxRecDepth 20000 in
theorem gX3_firstLeftOpen_X3_openSum : GoodIn wsX3_firstLeftOpen (va_wsS RX3 19 yX3_openSum wsX3_openSum) := goodIn_app (goodIn_of _ (by decide +kernel)) ggX3_firstLeftOpen_X3_openSum
theorem dX3_firstLeftOpen_0 : decode cX3_firstLeftOpen 0 = .ok (.iconst 1, 1) := by decide +kernel
theorem dX3_firstLeftOpen_1 : decode cX3_firstLeftOpen 1 = .ok (.istore 5, 2) := by decide +kernel
theorem dX3_firstLeftOpen_3 : decode cX3_firstLeftOpen 3 = .ok (.iload 5, 2) := by decide +kernel
theorem dX3_firstLeftOpen_5 : decode cX3_firstLeftOpen 5 = .ok (.iload 4, 2) := by decide +kernel
theorem dX3_firstLeftOpen_7 : decode cX3_firstLeftOpen 7 = .ok (.if_icmp .ge 32, 3) := by decide +kernel
theorem dX3_firstLeftOpen_10 : decode cX3_firstLeftOpen 10 = .ok (.lload_n 0, 1) := by decide +kernel
theorem dX3_firstLeftOpen_11 : decode cX3_firstLeftOpen 11 = .ok (.iload 4, 2) := by decide +kernel
theorem dX3_firstLeftOpen_13 : decode cX3_firstLeftOpen 13 = .ok (.iload 5, 2) := by decide +kernel
theorem dX3_firstLeftOpen_15 : decode cX3_firstLeftOpen 15 = .ok (.invokestatic 19, 3) := by decide +kernel
theorem dX3_firstLeftOpen_18 : decode cX3_firstLeftOpen 18 = .ok (.lload_n 2, 1) := by decide +kernel
theorem dX3_firstLeftOpen_19 : decode cX3_firstLeftOpen 19 = .ok (.iload 4, 2) := by decide +kernel
theorem dX3_firstLeftOpen_21 : decode cX3_firstLeftOpen 21 = .ok (.iload 5, 2) := by decide +kernel
theorem dX3_firstLeftOpen_23 : decode cX3_firstLeftOpen 23 = .ok (.invokestatic 19, 3) := by decide +kernel
theorem dX3_firstLeftOpen_26 : decode cX3_firstLeftOpen 26 = .ok (.iadd, 1) := by decide +kernel
theorem dX3_firstLeftOpen_27 : decode cX3_firstLeftOpen 27 = .ok (.ifCond .eq 6, 3) := by decide +kernel
theorem dX3_firstLeftOpen_30 : decode cX3_firstLeftOpen 30 = .ok (.iload 5, 2) := by decide +kernel
theorem dX3_firstLeftOpen_32 : decode cX3_firstLeftOpen 32 = .ok (.ireturn, 1) := by decide +kernel
theorem dX3_firstLeftOpen_33 : decode cX3_firstLeftOpen 33 = .ok (.iinc 5 1, 3) := by decide +kernel
theorem dX3_firstLeftOpen_36 : decode cX3_firstLeftOpen 36 = .ok (.goto (-33), 3) := by decide +kernel
theorem dX3_firstLeftOpen_39 : decode cX3_firstLeftOpen 39 = .ok (.iconst 0, 1) := by decide +kernel
theorem dX3_firstLeftOpen_40 : decode cX3_firstLeftOpen 40 = .ok (.ireturn, 1) := by decide +kernel
theorem dX3_reversed_0 : decode cX3_reversed 0 = .ok (.lconst 0, 1) := by decide +kernel
theorem dX3_reversed_1 : decode cX3_reversed 1 = .ok (.lstore_n 3, 1) := by decide +kernel
theorem dX3_reversed_2 : decode cX3_reversed 2 = .ok (.iconst 0, 1) := by decide +kernel
theorem dX3_reversed_3 : decode cX3_reversed 3 = .ok (.istore 5, 2) := by decide +kernel
theorem dX3_reversed_5 : decode cX3_reversed 5 = .ok (.iload 5, 2) := by decide +kernel
theorem dX3_reversed_7 : decode cX3_reversed 7 = .ok (.iload_n 2, 1) := by decide +kernel
theorem dX3_reversed_8 : decode cX3_reversed 8 = .ok (.if_icmp .ge 20, 3) := by decide +kernel
theorem dX3_reversed_11 : decode cX3_reversed 11 = .ok (.lload_n 3, 1) := by decide +kernel
theorem dX3_reversed_12 : decode cX3_reversed 12 = .ok (.iconst 1, 1) := by decide +kernel
theorem dX3_reversed_13 : decode cX3_reversed 13 = .ok (.lshl, 1) := by decide +kernel
theorem dX3_reversed_14 : decode cX3_reversed 14 = .ok (.lload_n 0, 1) := by decide +kernel
theorem dX3_reversed_15 : decode cX3_reversed 15 = .ok (.iload 5, 2) := by decide +kernel
theorem dX3_reversed_17 : decode cX3_reversed 17 = .ok (.lushr, 1) := by decide +kernel
theorem dX3_reversed_18 : decode cX3_reversed 18 = .ok (.lconst 1, 1) := by decide +kernel
theorem dX3_reversed_19 : decode cX3_reversed 19 = .ok (.land, 1) := by decide +kernel
theorem dX3_reversed_20 : decode cX3_reversed 20 = .ok (.lor, 1) := by decide +kernel
theorem dX3_reversed_21 : decode cX3_reversed 21 = .ok (.lstore_n 3, 1) := by decide +kernel
theorem dX3_reversed_22 : decode cX3_reversed 22 = .ok (.iinc 5 1, 3) := by decide +kernel
theorem dX3_reversed_25 : decode cX3_reversed 25 = .ok (.goto (-20), 3) := by decide +kernel
theorem dX3_reversed_28 : decode cX3_reversed 28 = .ok (.lload_n 3, 1) := by decide +kernel
theorem dX3_reversed_29 : decode cX3_reversed 29 = .ok (.lreturn, 1) := by decide +kernel
set_option maxRecDepth 20000 in
theorem ggX3_opposite_X3_mask : GoodIn wsX3_opposite wsX3_mask := goodIn_r _ [4] (by decide +kernel) (by decide +kernel)
set_option maxRecDepth 20000 in
theorem gX3_opposite_X3_mask : GoodIn wsX3_opposite (va_wsS RX3 7 yX3_mask wsX3_mask) := goodIn_app (goodIn_of _ (by decide +kernel)) ggX3_opposite_X3_mask
theorem dX3_opposite_0 : decode cX3_opposite 0 = .ok (.lload_n 0, 1) := by decide +kernel
theorem dX3_opposite_1 : decode cX3_opposite 1 = .ok (.iload_n 2, 1) := by decide +kernel
theorem dX3_opposite_2 : decode cX3_opposite 2 = .ok (.invokestatic 7, 3) := by decide +kernel
theorem dX3_opposite_5 : decode cX3_opposite 5 = .ok (.lxor, 1) := by decide +kernel
theorem dX3_opposite_6 : decode cX3_opposite 6 = .ok (.lreturn, 1) := by decide +kernel
set_option maxRecDepth 20000 in
theorem ggX3_turned_X3_reversed : GoodIn wsX3_turned wsX3_reversed := goodIn_r _ [5] (by decide +kernel) (by decide +kernel)
set_option maxRecDepth 20000 in
theorem gX3_turned_X3_reversed : GoodIn wsX3_turned (va_wsS RX3 33 yX3_reversed wsX3_reversed) := goodIn_app (goodIn_of _ (by decide +kernel)) ggX3_turned_X3_reversed
set_option maxRecDepth 20000 in
theorem ggX3_turned_X3_opposite : GoodIn wsX3_turned wsX3_opposite := goodIn_r _ [8, 9, 10, 4, 11] (by decide +kernel) (by decide +kernel)
set_option maxRecDepth 20000 in
theorem gX3_turned_X3_opposite : GoodIn wsX3_turned (va_wsS RX3 37 yX3_opposite wsX3_opposite) := goodIn_app (goodIn_of _ (by decide +kernel)) ggX3_turned_X3_opposite
set_option maxRecDepth 20000 in
theorem ggX3_turned_X3_mask : GoodIn wsX3_turned wsX3_mask := goodIn_r _ [11] (by decide +kernel) (by decide +kernel)
set_option maxRecDepth 20000 in
theorem gX3_turned_X3_mask : GoodIn wsX3_turned (va_wsS RX3 7 yX3_mask wsX3_mask) := goodIn_app (goodIn_of _ (by decide +kernel)) ggX3_turned_X3_mask
theorem dX3_turned_0 : decode cX3_turned 0 = .ok (.iload_n 3, 1) := by decide +kernel
theorem dX3_turned_1 : decode cX3_turned 1 = .ok (.iconst 1, 1) := by decide +kernel
theorem dX3_turned_2 : decode cX3_turned 2 = .ok (.iand, 1) := by decide +kernel
theorem dX3_turned_3 : decode cX3_turned 3 = .ok (.ifCond .eq 11, 3) := by decide +kernel
theorem dX3_turned_6 : decode cX3_turned 6 = .ok (.lload_n 0, 1) := by decide +kernel
theorem dX3_turned_7 : decode cX3_turned 7 = .ok (.iload_n 2, 1) := by decide +kernel
theorem dX3_turned_8 : decode cX3_turned 8 = .ok (.invokestatic 33, 3) := by decide +kernel
theorem dX3_turned_11 : decode cX3_turned 11 = .ok (.goto 4, 3) := by decide +kernel
theorem dX3_turned_14 : decode cX3_turned 14 = .ok (.lload_n 0, 1) := by decide +kernel
theorem dX3_turned_15 : decode cX3_turned 15 = .ok (.lstore 4, 2) := by decide +kernel
theorem dX3_turned_17 : decode cX3_turned 17 = .ok (.iload_n 3, 1) := by decide +kernel
theorem dX3_turned_18 : decode cX3_turned 18 = .ok (.iconst 2, 1) := by decide +kernel
theorem dX3_turned_19 : decode cX3_turned 19 = .ok (.iand, 1) := by decide +kernel
theorem dX3_turned_20 : decode cX3_turned 20 = .ok (.ifCond .eq 12, 3) := by decide +kernel
theorem dX3_turned_23 : decode cX3_turned 23 = .ok (.lload 4, 2) := by decide +kernel
theorem dX3_turned_25 : decode cX3_turned 25 = .ok (.iload_n 2, 1) := by decide +kernel
theorem dX3_turned_26 : decode cX3_turned 26 = .ok (.invokestatic 37, 3) := by decide +kernel
theorem dX3_turned_29 : decode cX3_turned 29 = .ok (.goto 5, 3) := by decide +kernel
theorem dX3_turned_32 : decode cX3_turned 32 = .ok (.lload 4, 2) := by decide +kernel
theorem dX3_turned_34 : decode cX3_turned 34 = .ok (.lstore 4, 2) := by decide +kernel
theorem dX3_turned_36 : decode cX3_turned 36 = .ok (.iload_n 3, 1) := by decide +kernel
theorem dX3_turned_37 : decode cX3_turned 37 = .ok (.iconst 4, 1) := by decide +kernel
theorem dX3_turned_38 : decode cX3_turned 38 = .ok (.iand, 1) := by decide +kernel
theorem dX3_turned_39 : decode cX3_turned 39 = .ok (.ifCond .eq 17, 3) := by decide +kernel
theorem dX3_turned_42 : decode cX3_turned 42 = .ok (.lload 4, 2) := by decide +kernel
theorem dX3_turned_44 : decode cX3_turned 44 = .ok (.ldc2_w 40, 3) := by decide +kernel
theorem dX3_turned_47 : decode cX3_turned 47 = .ok (.iload_n 2, 1) := by decide +kernel
theorem dX3_turned_48 : decode cX3_turned 48 = .ok (.invokestatic 7, 3) := by decide +kernel
theorem dX3_turned_51 : decode cX3_turned 51 = .ok (.land, 1) := by decide +kernel
theorem dX3_turned_52 : decode cX3_turned 52 = .ok (.lxor, 1) := by decide +kernel
theorem dX3_turned_53 : decode cX3_turned 53 = .ok (.goto 5, 3) := by decide +kernel
theorem dX3_turned_56 : decode cX3_turned 56 = .ok (.lload 4, 2) := by decide +kernel
theorem dX3_turned_58 : decode cX3_turned 58 = .ok (.lreturn, 1) := by decide +kernel
set_option maxRecDepth 20000 in
theorem ggX3_leastTurned_X3_turned : GoodIn wsX3_leastTurned wsX3_turned := goodIn_r _ [8, 9, 10, 11, 7, 12, 13, 14, 15, 16, 17, 18] (by decide +kernel) (by decide +kernel)
set_option maxRecDepth 20000 in
theorem gX3_leastTurned_X3_turned : GoodIn wsX3_leastTurned (va_wsS RX3 42 yX3_turned wsX3_turned) := goodIn_app (goodIn_of _ (by decide +kernel)) ggX3_leastTurned_X3_turned
theorem dX3_leastTurned_0 : decode cX3_leastTurned 0 = .ok (.lload_n 0, 1) := by decide +kernel
theorem dX3_leastTurned_1 : decode cX3_leastTurned 1 = .ok (.lstore_n 3, 1) := by decide +kernel
theorem dX3_leastTurned_2 : decode cX3_leastTurned 2 = .ok (.iconst 1, 1) := by decide +kernel
theorem dX3_leastTurned_3 : decode cX3_leastTurned 3 = .ok (.istore 5, 2) := by decide +kernel
theorem dX3_leastTurned_5 : decode cX3_leastTurned 5 = .ok (.iload 5, 2) := by decide +kernel
theorem dX3_leastTurned_7 : decode cX3_leastTurned 7 = .ok (.bipush 8, 2) := by decide +kernel
theorem dX3_leastTurned_9 : decode cX3_leastTurned 9 = .ok (.if_icmp .ge 21, 3) := by decide +kernel
theorem dX3_leastTurned_12 : decode cX3_leastTurned 12 = .ok (.lload_n 3, 1) := by decide +kernel
theorem dX3_leastTurned_13 : decode cX3_leastTurned 13 = .ok (.lload_n 0, 1) := by decide +kernel
theorem dX3_leastTurned_14 : decode cX3_leastTurned 14 = .ok (.iload_n 2, 1) := by decide +kernel
theorem dX3_leastTurned_15 : decode cX3_leastTurned 15 = .ok (.iload 5, 2) := by decide +kernel
theorem dX3_leastTurned_17 : decode cX3_leastTurned 17 = .ok (.invokestatic 42, 3) := by decide +kernel
theorem dX3_leastTurned_20 : decode cX3_leastTurned 20 = .ok (.invokestatic 46, 3) := by decide +kernel
theorem dX3_leastTurned_23 : decode cX3_leastTurned 23 = .ok (.lstore_n 3, 1) := by decide +kernel
theorem dX3_leastTurned_24 : decode cX3_leastTurned 24 = .ok (.iinc 5 1, 3) := by decide +kernel
theorem dX3_leastTurned_27 : decode cX3_leastTurned 27 = .ok (.goto (-22), 3) := by decide +kernel
theorem dX3_leastTurned_30 : decode cX3_leastTurned 30 = .ok (.lload_n 3, 1) := by decide +kernel
theorem dX3_leastTurned_31 : decode cX3_leastTurned 31 = .ok (.lreturn, 1) := by decide +kernel
set_option maxRecDepth 20000 in
theorem ggX3_unlikeTurned_X3_isNewTurned : GoodIn wsX3_unlikeTurned wsX3_isNewTurned := goodIn_r _ [4, 5, 6, 3, 7, 8, 9, 10, 11, 12, 13, 14, 15, 16, 17] (by decide +kernel) (by decide +kernel)
set_option maxRecDepth 20000 in
theorem gX3_unlikeTurned_X3_isNewTurned : GoodIn wsX3_unlikeTurned (va_wsS RX3 50 yX3_isNewTurned wsX3_isNewTurned) := goodIn_app (goodIn_of _ (by decide +kernel)) ggX3_unlikeTurned_X3_isNewTurned
theorem dX3_unlikeTurned_0 : decode cX3_unlikeTurned 0 = .ok (.iconst 0, 1) := by decide +kernel
theorem dX3_unlikeTurned_1 : decode cX3_unlikeTurned 1 = .ok (.istore_n 3, 1) := by decide +kernel
theorem dX3_unlikeTurned_2 : decode cX3_unlikeTurned 2 = .ok (.iconst 0, 1) := by decide +kernel
theorem dX3_unlikeTurned_3 : decode cX3_unlikeTurned 3 = .ok (.istore 4, 2) := by decide +kernel
theorem dX3_unlikeTurned_5 : decode cX3_unlikeTurned 5 = .ok (.iload 4, 2) := by decide +kernel
theorem dX3_unlikeTurned_7 : decode cX3_unlikeTurned 7 = .ok (.bipush 8, 2) := by decide +kernel
theorem dX3_unlikeTurned_9 : decode cX3_unlikeTurned 9 = .ok (.if_icmp .ge 27, 3) := by decide +kernel
theorem dX3_unlikeTurned_12 : decode cX3_unlikeTurned 12 = .ok (.iload_n 3, 1) := by decide +kernel
theorem dX3_unlikeTurned_13 : decode cX3_unlikeTurned 13 = .ok (.lload_n 0, 1) := by decide +kernel
theorem dX3_unlikeTurned_14 : decode cX3_unlikeTurned 14 = .ok (.iload_n 2, 1) := by decide +kernel
theorem dX3_unlikeTurned_15 : decode cX3_unlikeTurned 15 = .ok (.iload 4, 2) := by decide +kernel
theorem dX3_unlikeTurned_17 : decode cX3_unlikeTurned 17 = .ok (.invokestatic 50, 3) := by decide +kernel
theorem dX3_unlikeTurned_20 : decode cX3_unlikeTurned 20 = .ok (.ifCond .eq 7, 3) := by decide +kernel
theorem dX3_unlikeTurned_23 : decode cX3_unlikeTurned 23 = .ok (.iconst 1, 1) := by decide +kernel
theorem dX3_unlikeTurned_24 : decode cX3_unlikeTurned 24 = .ok (.goto 4, 3) := by decide +kernel
theorem dX3_unlikeTurned_27 : decode cX3_unlikeTurned 27 = .ok (.iconst 0, 1) := by decide +kernel
theorem dX3_unlikeTurned_28 : decode cX3_unlikeTurned 28 = .ok (.iadd, 1) := by decide +kernel
theorem dX3_unlikeTurned_29 : decode cX3_unlikeTurned 29 = .ok (.istore_n 3, 1) := by decide +kernel
theorem dX3_unlikeTurned_30 : decode cX3_unlikeTurned 30 = .ok (.iinc 4 1, 3) := by decide +kernel
theorem dX3_unlikeTurned_33 : decode cX3_unlikeTurned 33 = .ok (.goto (-28), 3) := by decide +kernel
theorem dX3_unlikeTurned_36 : decode cX3_unlikeTurned 36 = .ok (.iload_n 3, 1) := by decide +kernel
theorem dX3_unlikeTurned_37 : decode cX3_unlikeTurned 37 = .ok (.ireturn, 1) := by decide +kernel
set_option maxRecDepth 20000 in
theorem ggX3_isNewTurned_X3_turned : GoodIn wsX3_isNewTurned wsX3_turned := goodIn_r _ [4, 5, 6, 7, 3, 8, 9, 10, 11, 12, 13, 14] (by decide +kernel) (by decide +kernel)
set_option maxRecDepth 20000 in
theorem gX3_isNewTurned_X3_turned : GoodIn wsX3_isNewTurned (va_wsS RX3 42 yX3_turned wsX3_turned) := goodIn_app (goodIn_of _ (by decide +kernel)) ggX3_isNewTurned_X3_turned
theorem dX3_isNewTurned_0 : decode cX3_isNewTurned 0 = .ok (.lload_n 0, 1) := by decide +kernel
theorem dX3_isNewTurned_1 : decode cX3_isNewTurned 1 = .ok (.iload_n 2, 1) := by decide +kernel
theorem dX3_isNewTurned_2 : decode cX3_isNewTurned 2 = .ok (.iload_n 3, 1) := by decide +kernel
theorem dX3_isNewTurned_3 : decode cX3_isNewTurned 3 = .ok (.invokestatic 42, 3) := by decide +kernel
theorem dX3_isNewTurned_6 : decode cX3_isNewTurned 6 = .ok (.lstore 4, 2) := by decide +kernel
theorem dX3_isNewTurned_8 : decode cX3_isNewTurned 8 = .ok (.iconst 0, 1) := by decide +kernel
theorem dX3_isNewTurned_9 : decode cX3_isNewTurned 9 = .ok (.istore 6, 2) := by decide +kernel
theorem dX3_isNewTurned_11 : decode cX3_isNewTurned 11 = .ok (.iload 6, 2) := by decide +kernel
theorem dX3_isNewTurned_13 : decode cX3_isNewTurned 13 = .ok (.iload_n 3, 1) := by decide +kernel
theorem dX3_isNewTurned_14 : decode cX3_isNewTurned 14 = .ok (.if_icmp .ge 24, 3) := by decide +kernel
theorem dX3_isNewTurned_17 : decode cX3_isNewTurned 17 = .ok (.lload_n 0, 1) := by decide +kernel
theorem dX3_isNewTurned_18 : decode cX3_isNewTurned 18 = .ok (.iload_n 2, 1) := by decide +kernel
theorem dX3_isNewTurned_19 : decode cX3_isNewTurned 19 = .ok (.iload 6, 2) := by decide +kernel
theorem dX3_isNewTurned_21 : decode cX3_isNewTurned 21 = .ok (.invokestatic 42, 3) := by decide +kernel
theorem dX3_isNewTurned_24 : decode cX3_isNewTurned 24 = .ok (.lload 4, 2) := by decide +kernel
theorem dX3_isNewTurned_26 : decode cX3_isNewTurned 26 = .ok (.lcmp, 1) := by decide +kernel
theorem dX3_isNewTurned_27 : decode cX3_isNewTurned 27 = .ok (.ifCond .ne 5, 3) := by decide +kernel
theorem dX3_isNewTurned_30 : decode cX3_isNewTurned 30 = .ok (.iconst 0, 1) := by decide +kernel
theorem dX3_isNewTurned_31 : decode cX3_isNewTurned 31 = .ok (.ireturn, 1) := by decide +kernel
theorem dX3_isNewTurned_32 : decode cX3_isNewTurned 32 = .ok (.iinc 6 1, 3) := by decide +kernel
theorem dX3_isNewTurned_35 : decode cX3_isNewTurned 35 = .ok (.goto (-24), 3) := by decide +kernel
theorem dX3_isNewTurned_38 : decode cX3_isNewTurned 38 = .ok (.iconst 1, 1) := by decide +kernel
theorem dX3_isNewTurned_39 : decode cX3_isNewTurned 39 = .ok (.ireturn, 1) := by decide +kernel
theorem dX3_joined_0 : decode cX3_joined 0 = .ok (.lload_n 0, 1) := by decide +kernel
theorem dX3_joined_1 : decode cX3_joined 1 = .ok (.lload_n 3, 1) := by decide +kernel
theorem dX3_joined_2 : decode cX3_joined 2 = .ok (.iload_n 2, 1) := by decide +kernel
theorem dX3_joined_3 : decode cX3_joined 3 = .ok (.lshl, 1) := by decide +kernel
theorem dX3_joined_4 : decode cX3_joined 4 = .ok (.lor, 1) := by decide +kernel
theorem dX3_joined_5 : decode cX3_joined 5 = .ok (.lreturn, 1) := by decide +kernel
theorem dX3_woven_0 : decode cX3_woven 0 = .ok (.lconst 0, 1) := by decide +kernel
theorem dX3_woven_1 : decode cX3_woven 1 = .ok (.lstore 5, 2) := by decide +kernel
theorem dX3_woven_3 : decode cX3_woven 3 = .ok (.iconst 0, 1) := by decide +kernel
theorem dX3_woven_4 : decode cX3_woven 4 = .ok (.istore 7, 2) := by decide +kernel
theorem dX3_woven_6 : decode cX3_woven 6 = .ok (.iload 7, 2) := by decide +kernel
theorem dX3_woven_8 : decode cX3_woven 8 = .ok (.iload 4, 2) := by decide +kernel
theorem dX3_woven_10 : decode cX3_woven 10 = .ok (.if_icmp .ge 39, 3) := by decide +kernel
theorem dX3_woven_13 : decode cX3_woven 13 = .ok (.lload 5, 2) := by decide +kernel
theorem dX3_woven_15 : decode cX3_woven 15 = .ok (.lload_n 0, 1) := by decide +kernel
theorem dX3_woven_16 : decode cX3_woven 16 = .ok (.iload 7, 2) := by decide +kernel
theorem dX3_woven_18 : decode cX3_woven 18 = .ok (.lushr, 1) := by decide +kernel
theorem dX3_woven_19 : decode cX3_woven 19 = .ok (.lconst 1, 1) := by decide +kernel
theorem dX3_woven_20 : decode cX3_woven 20 = .ok (.land, 1) := by decide +kernel
theorem dX3_woven_21 : decode cX3_woven 21 = .ok (.iconst 2, 1) := by decide +kernel
theorem dX3_woven_22 : decode cX3_woven 22 = .ok (.iload 7, 2) := by decide +kernel
theorem dX3_woven_24 : decode cX3_woven 24 = .ok (.imul, 1) := by decide +kernel
theorem dX3_woven_25 : decode cX3_woven 25 = .ok (.lshl, 1) := by decide +kernel
theorem dX3_woven_26 : decode cX3_woven 26 = .ok (.lload_n 2, 1) := by decide +kernel
theorem dX3_woven_27 : decode cX3_woven 27 = .ok (.iload 7, 2) := by decide +kernel
theorem dX3_woven_29 : decode cX3_woven 29 = .ok (.lushr, 1) := by decide +kernel
theorem dX3_woven_30 : decode cX3_woven 30 = .ok (.lconst 1, 1) := by decide +kernel
theorem dX3_woven_31 : decode cX3_woven 31 = .ok (.land, 1) := by decide +kernel
theorem dX3_woven_32 : decode cX3_woven 32 = .ok (.iconst 2, 1) := by decide +kernel
theorem dX3_woven_33 : decode cX3_woven 33 = .ok (.iload 7, 2) := by decide +kernel
theorem dX3_woven_35 : decode cX3_woven 35 = .ok (.imul, 1) := by decide +kernel
theorem dX3_woven_36 : decode cX3_woven 36 = .ok (.iconst 1, 1) := by decide +kernel
theorem dX3_woven_37 : decode cX3_woven 37 = .ok (.iadd, 1) := by decide +kernel
theorem dX3_woven_38 : decode cX3_woven 38 = .ok (.lshl, 1) := by decide +kernel
theorem dX3_woven_39 : decode cX3_woven 39 = .ok (.lor, 1) := by decide +kernel
theorem dX3_woven_40 : decode cX3_woven 40 = .ok (.lor, 1) := by decide +kernel
theorem dX3_woven_41 : decode cX3_woven 41 = .ok (.lstore 5, 2) := by decide +kernel
theorem dX3_woven_43 : decode cX3_woven 43 = .ok (.iinc 7 1, 3) := by decide +kernel
theorem dX3_woven_46 : decode cX3_woven 46 = .ok (.goto (-40), 3) := by decide +kernel
theorem dX3_woven_49 : decode cX3_woven 49 = .ok (.lload 5, 2) := by decide +kernel
theorem dX3_woven_51 : decode cX3_woven 51 = .ok (.lreturn, 1) := by decide +kernel
set_option maxRecDepth 20000 in
theorem ggX3_product_X3_sign : GoodIn wsX3_product wsX3_sign := goodIn_r _ [4] (by decide +kernel) (by decide +kernel)
set_option maxRecDepth 20000 in
theorem gX3_product_X3_sign : GoodIn wsX3_product (va_wsS RX3 54 yX3_sign wsX3_sign) := goodIn_app (goodIn_of _ (by decide +kernel)) ggX3_product_X3_sign
set_option maxRecDepth 20000 in
theorem ggX3_product_X3_opposite : GoodIn wsX3_product wsX3_opposite := goodIn_r _ [7, 8, 9, 3, 10] (by decide +kernel) (by decide +kernel)
set_option maxRecDepth 20000 in
theorem gX3_product_X3_opposite : GoodIn wsX3_product (va_wsS RX3 37 yX3_opposite wsX3_opposite) := goodIn_app (goodIn_of _ (by decide +kernel)) ggX3_product_X3_opposite
theorem dX3_product_0 : decode cX3_product 0 = .ok (.lconst 0, 1) := by decide +kernel
theorem dX3_product_1 : decode cX3_product 1 = .ok (.lstore 6, 2) := by decide +kernel
theorem dX3_product_3 : decode cX3_product 3 = .ok (.iconst 0, 1) := by decide +kernel
theorem dX3_product_4 : decode cX3_product 4 = .ok (.istore 8, 2) := by decide +kernel
theorem dX3_product_6 : decode cX3_product 6 = .ok (.iload 8, 2) := by decide +kernel
theorem dX3_product_8 : decode cX3_product 8 = .ok (.iload_n 2, 1) := by decide +kernel
theorem dX3_product_9 : decode cX3_product 9 = .ok (.if_icmp .ge 44, 3) := by decide +kernel
theorem dX3_product_12 : decode cX3_product 12 = .ok (.lload_n 0, 1) := by decide +kernel
theorem dX3_product_13 : decode cX3_product 13 = .ok (.iload 8, 2) := by decide +kernel
theorem dX3_product_15 : decode cX3_product 15 = .ok (.invokestatic 54, 3) := by decide +kernel
theorem dX3_product_18 : decode cX3_product 18 = .ok (.iconst 1, 1) := by decide +kernel
theorem dX3_product_19 : decode cX3_product 19 = .ok (.if_icmp .ne 7, 3) := by decide +kernel
theorem dX3_product_22 : decode cX3_product 22 = .ok (.lload_n 3, 1) := by decide +kernel
theorem dX3_product_23 : decode cX3_product 23 = .ok (.goto 9, 3) := by decide +kernel
theorem dX3_product_26 : decode cX3_product 26 = .ok (.lload_n 3, 1) := by decide +kernel
theorem dX3_product_27 : decode cX3_product 27 = .ok (.iload 5, 2) := by decide +kernel
theorem dX3_product_29 : decode cX3_product 29 = .ok (.invokestatic 37, 3) := by decide +kernel
theorem dX3_product_32 : decode cX3_product 32 = .ok (.lstore 9, 2) := by decide +kernel
theorem dX3_product_34 : decode cX3_product 34 = .ok (.lload 6, 2) := by decide +kernel
theorem dX3_product_36 : decode cX3_product 36 = .ok (.lload 9, 2) := by decide +kernel
theorem dX3_product_38 : decode cX3_product 38 = .ok (.iload 8, 2) := by decide +kernel
theorem dX3_product_40 : decode cX3_product 40 = .ok (.iload 5, 2) := by decide +kernel
theorem dX3_product_42 : decode cX3_product 42 = .ok (.imul, 1) := by decide +kernel
theorem dX3_product_43 : decode cX3_product 43 = .ok (.lshl, 1) := by decide +kernel
theorem dX3_product_44 : decode cX3_product 44 = .ok (.lor, 1) := by decide +kernel
theorem dX3_product_45 : decode cX3_product 45 = .ok (.lstore 6, 2) := by decide +kernel
theorem dX3_product_47 : decode cX3_product 47 = .ok (.iinc 8 1, 3) := by decide +kernel
theorem dX3_product_50 : decode cX3_product 50 = .ok (.goto (-44), 3) := by decide +kernel
theorem dX3_product_53 : decode cX3_product 53 = .ok (.lload 6, 2) := by decide +kernel
theorem dX3_product_55 : decode cX3_product 55 = .ok (.lreturn, 1) := by decide +kernel
theorem dX4_rootOf_0 : decode cX4_rootOf 0 = .ok (.iconst 0, 1) := by decide +kernel
theorem dX4_rootOf_1 : decode cX4_rootOf 1 = .ok (.istore_n 1, 1) := by decide +kernel
theorem dX4_rootOf_2 : decode cX4_rootOf 2 = .ok (.sipush 512, 3) := by decide +kernel
theorem dX4_rootOf_5 : decode cX4_rootOf 5 = .ok (.istore_n 2, 1) := by decide +kernel
theorem dX4_rootOf_6 : decode cX4_rootOf 6 = .ok (.iload_n 2, 1) := by decide +kernel
theorem dX4_rootOf_7 : decode cX4_rootOf 7 = .ok (.ifCond .le 25, 3) := by decide +kernel
theorem dX4_rootOf_10 : decode cX4_rootOf 10 = .ok (.iload_n 1, 1) := by decide +kernel
theorem dX4_rootOf_11 : decode cX4_rootOf 11 = .ok (.iload_n 2, 1) := by decide +kernel
theorem dX4_rootOf_12 : decode cX4_rootOf 12 = .ok (.iadd, 1) := by decide +kernel
theorem dX4_rootOf_13 : decode cX4_rootOf 13 = .ok (.iload_n 1, 1) := by decide +kernel
theorem dX4_rootOf_14 : decode cX4_rootOf 14 = .ok (.iload_n 2, 1) := by decide +kernel
theorem dX4_rootOf_15 : decode cX4_rootOf 15 = .ok (.iadd, 1) := by decide +kernel
theorem dX4_rootOf_16 : decode cX4_rootOf 16 = .ok (.imul, 1) := by decide +kernel
theorem dX4_rootOf_17 : decode cX4_rootOf 17 = .ok (.iload_n 0, 1) := by decide +kernel
theorem dX4_rootOf_18 : decode cX4_rootOf 18 = .ok (.if_icmp .gt 7, 3) := by decide +kernel
theorem dX4_rootOf_21 : decode cX4_rootOf 21 = .ok (.iload_n 1, 1) := by decide +kernel
theorem dX4_rootOf_22 : decode cX4_rootOf 22 = .ok (.iload_n 2, 1) := by decide +kernel
theorem dX4_rootOf_23 : decode cX4_rootOf 23 = .ok (.iadd, 1) := by decide +kernel
theorem dX4_rootOf_24 : decode cX4_rootOf 24 = .ok (.istore_n 1, 1) := by decide +kernel
theorem dX4_rootOf_25 : decode cX4_rootOf 25 = .ok (.iload_n 2, 1) := by decide +kernel
theorem dX4_rootOf_26 : decode cX4_rootOf 26 = .ok (.iconst 2, 1) := by decide +kernel
theorem dX4_rootOf_27 : decode cX4_rootOf 27 = .ok (.idiv, 1) := by decide +kernel
theorem dX4_rootOf_28 : decode cX4_rootOf 28 = .ok (.istore_n 2, 1) := by decide +kernel
theorem dX4_rootOf_29 : decode cX4_rootOf 29 = .ok (.goto (-23), 3) := by decide +kernel
theorem dX4_rootOf_32 : decode cX4_rootOf 32 = .ok (.iload_n 1, 1) := by decide +kernel
theorem dX4_rootOf_33 : decode cX4_rootOf 33 = .ok (.ireturn, 1) := by decide +kernel
set_option maxRecDepth 20000 in
theorem ggX4_ways_X4_rootOf : GoodIn wsX4_ways wsX4_rootOf := goodIn_r _ [8] (by decide +kernel) (by decide +kernel)
set_option maxRecDepth 20000 in
theorem gX4_ways_X4_rootOf : GoodIn wsX4_ways (va_wsS RX4 7 yX4_rootOf wsX4_rootOf) := goodIn_app (goodIn_of _ (by decide +kernel)) ggX4_ways_X4_rootOf
set_option maxRecDepth 20000 in
theorem ggX4_ways_X4_ways : GoodIn wsX4_ways wsX4_ways := goodIn_r _ [0, 1, 2, 3, 4, 5, 6, 7, 8, 9, 10] (by decide +kernel) (by decide +kernel)
set_option maxRecDepth 20000 in
theorem gX4_ways_X4_ways : GoodIn wsX4_ways (va_wsS RX4 19 yX4_ways wsX4_ways) := goodIn_app (goodIn_of _ (by decide +kernel)) ggX4_ways_X4_ways
theorem dX4_ways_0 : decode cX4_ways 0 = .ok (.iload_n 1, 1) := by decide +kernel
theorem dX4_ways_1 : decode cX4_ways 1 = .ok (.iconst 1, 1) := by decide +kernel
theorem dX4_ways_2 : decode cX4_ways 2 = .ok (.if_icmp .gt 26, 3) := by decide +kernel
theorem dX4_ways_5 : decode cX4_ways 5 = .ok (.iload_n 0, 1) := by decide +kernel
theorem dX4_ways_6 : decode cX4_ways 6 = .ok (.invokestatic 7, 3) := by decide +kernel
theorem dX4_ways_9 : decode cX4_ways 9 = .ok (.istore_n 3, 1) := by decide +kernel
theorem dX4_ways_10 : decode cX4_ways 10 = .ok (.iload_n 3, 1) := by decide +kernel
theorem dX4_ways_11 : decode cX4_ways 11 = .ok (.iload_n 2, 1) := by decide +kernel
theorem dX4_ways_12 : decode cX4_ways 12 = .ok (.if_icmp .gt 14, 3) := by decide +kernel
theorem dX4_ways_15 : decode cX4_ways 15 = .ok (.iload_n 3, 1) := by decide +kernel
theorem dX4_ways_16 : decode cX4_ways 16 = .ok (.iload_n 3, 1) := by decide +kernel
theorem dX4_ways_17 : decode cX4_ways 17 = .ok (.imul, 1) := by decide +kernel
theorem dX4_ways_18 : decode cX4_ways 18 = .ok (.iload_n 0, 1) := by decide +kernel
theorem dX4_ways_19 : decode cX4_ways 19 = .ok (.if_icmp .ne 7, 3) := by decide +kernel
theorem dX4_ways_22 : decode cX4_ways 22 = .ok (.iconst 1, 1) := by decide +kernel
theorem dX4_ways_23 : decode cX4_ways 23 = .ok (.goto 4, 3) := by decide +kernel
theorem dX4_ways_26 : decode cX4_ways 26 = .ok (.iconst 0, 1) := by decide +kernel
theorem dX4_ways_27 : decode cX4_ways 27 = .ok (.ireturn, 1) := by decide +kernel
theorem dX4_ways_28 : decode cX4_ways 28 = .ok (.iconst 0, 1) := by decide +kernel
theorem dX4_ways_29 : decode cX4_ways 29 = .ok (.istore_n 3, 1) := by decide +kernel
theorem dX4_ways_30 : decode cX4_ways 30 = .ok (.iload_n 2, 1) := by decide +kernel
theorem dX4_ways_31 : decode cX4_ways 31 = .ok (.iload_n 0, 1) := by decide +kernel
theorem dX4_ways_32 : decode cX4_ways 32 = .ok (.invokestatic 7, 3) := by decide +kernel
theorem dX4_ways_35 : decode cX4_ways 35 = .ok (.invokestatic 13, 3) := by decide +kernel
theorem dX4_ways_38 : decode cX4_ways 38 = .ok (.istore 4, 2) := by decide +kernel
theorem dX4_ways_40 : decode cX4_ways 40 = .ok (.iload 4, 2) := by decide +kernel
theorem dX4_ways_42 : decode cX4_ways 42 = .ok (.ifCond .lt 27, 3) := by decide +kernel
theorem dX4_ways_45 : decode cX4_ways 45 = .ok (.iload_n 3, 1) := by decide +kernel
theorem dX4_ways_46 : decode cX4_ways 46 = .ok (.iload_n 0, 1) := by decide +kernel
theorem dX4_ways_47 : decode cX4_ways 47 = .ok (.iload 4, 2) := by decide +kernel
theorem dX4_ways_49 : decode cX4_ways 49 = .ok (.iload 4, 2) := by decide +kernel
theorem dX4_ways_51 : decode cX4_ways 51 = .ok (.imul, 1) := by decide +kernel
theorem dX4_ways_52 : decode cX4_ways 52 = .ok (.isub, 1) := by decide +kernel
theorem dX4_ways_53 : decode cX4_ways 53 = .ok (.iload_n 1, 1) := by decide +kernel
theorem dX4_ways_54 : decode cX4_ways 54 = .ok (.iconst 1, 1) := by decide +kernel
theorem dX4_ways_55 : decode cX4_ways 55 = .ok (.isub, 1) := by decide +kernel
theorem dX4_ways_56 : decode cX4_ways 56 = .ok (.iload 4, 2) := by decide +kernel
theorem dX4_ways_58 : decode cX4_ways 58 = .ok (.invokestatic 19, 3) := by decide +kernel
theorem dX4_ways_61 : decode cX4_ways 61 = .ok (.iadd, 1) := by decide +kernel
theorem dX4_ways_62 : decode cX4_ways 62 = .ok (.istore_n 3, 1) := by decide +kernel
theorem dX4_ways_63 : decode cX4_ways 63 = .ok (.iinc 4 (-1), 3) := by decide +kernel
theorem dX4_ways_66 : decode cX4_ways 66 = .ok (.goto (-26), 3) := by decide +kernel
theorem dX4_ways_69 : decode cX4_ways 69 = .ok (.iload_n 3, 1) := by decide +kernel
theorem dX4_ways_70 : decode cX4_ways 70 = .ok (.ireturn, 1) := by decide +kernel
theorem dX4_hasPrimeOfRestThree_0 : decode cX4_hasPrimeOfRestThree 0 = .ok (.iconst 1, 1) := by decide +kernel
theorem dX4_hasPrimeOfRestThree_1 : decode cX4_hasPrimeOfRestThree 1 = .ok (.istore_n 1, 1) := by decide +kernel
theorem dX4_hasPrimeOfRestThree_2 : decode cX4_hasPrimeOfRestThree 2 = .ok (.iload_n 1, 1) := by decide +kernel
theorem dX4_hasPrimeOfRestThree_3 : decode cX4_hasPrimeOfRestThree 3 = .ok (.iload_n 1, 1) := by decide +kernel
theorem dX4_hasPrimeOfRestThree_4 : decode cX4_hasPrimeOfRestThree 4 = .ok (.imul, 1) := by decide +kernel
theorem dX4_hasPrimeOfRestThree_5 : decode cX4_hasPrimeOfRestThree 5 = .ok (.iload_n 0, 1) := by decide +kernel
theorem dX4_hasPrimeOfRestThree_6 : decode cX4_hasPrimeOfRestThree 6 = .ok (.if_icmp .gt 33, 3) := by decide +kernel
theorem dX4_hasPrimeOfRestThree_9 : decode cX4_hasPrimeOfRestThree 9 = .ok (.iload_n 0, 1) := by decide +kernel
theorem dX4_hasPrimeOfRestThree_10 : decode cX4_hasPrimeOfRestThree 10 = .ok (.iload_n 1, 1) := by decide +kernel
theorem dX4_hasPrimeOfRestThree_11 : decode cX4_hasPrimeOfRestThree 11 = .ok (.irem, 1) := by decide +kernel
theorem dX4_hasPrimeOfRestThree_12 : decode cX4_hasPrimeOfRestThree 12 = .ok (.ifCond .ne 21, 3) := by decide +kernel
theorem dX4_hasPrimeOfRestThree_15 : decode cX4_hasPrimeOfRestThree 15 = .ok (.iload_n 1, 1) := by decide +kernel
theorem dX4_hasPrimeOfRestThree_16 : decode cX4_hasPrimeOfRestThree 16 = .ok (.iconst 4, 1) := by decide +kernel
theorem dX4_hasPrimeOfRestThree_17 : decode cX4_hasPrimeOfRestThree 17 = .ok (.irem, 1) := by decide +kernel
theorem dX4_hasPrimeOfRestThree_18 : decode cX4_hasPrimeOfRestThree 18 = .ok (.iconst 3, 1) := by decide +kernel
theorem dX4_hasPrimeOfRestThree_19 : decode cX4_hasPrimeOfRestThree 19 = .ok (.if_icmp .eq 12, 3) := by decide +kernel
theorem dX4_hasPrimeOfRestThree_22 : decode cX4_hasPrimeOfRestThree 22 = .ok (.iload_n 0, 1) := by decide +kernel
theorem dX4_hasPrimeOfRestThree_23 : decode cX4_hasPrimeOfRestThree 23 = .ok (.iload_n 1, 1) := by decide +kernel
theorem dX4_hasPrimeOfRestThree_24 : decode cX4_hasPrimeOfRestThree 24 = .ok (.idiv, 1) := by decide +kernel
theorem dX4_hasPrimeOfRestThree_25 : decode cX4_hasPrimeOfRestThree 25 = .ok (.iconst 4, 1) := by decide +kernel
theorem dX4_hasPrimeOfRestThree_26 : decode cX4_hasPrimeOfRestThree 26 = .ok (.irem, 1) := by decide +kernel
theorem dX4_hasPrimeOfRestThree_27 : decode cX4_hasPrimeOfRestThree 27 = .ok (.iconst 3, 1) := by decide +kernel
theorem dX4_hasPrimeOfRestThree_28 : decode cX4_hasPrimeOfRestThree 28 = .ok (.if_icmp .ne 5, 3) := by decide +kernel
theorem dX4_hasPrimeOfRestThree_31 : decode cX4_hasPrimeOfRestThree 31 = .ok (.iconst 1, 1) := by decide +kernel
theorem dX4_hasPrimeOfRestThree_32 : decode cX4_hasPrimeOfRestThree 32 = .ok (.ireturn, 1) := by decide +kernel
theorem dX4_hasPrimeOfRestThree_33 : decode cX4_hasPrimeOfRestThree 33 = .ok (.iinc 1 1, 3) := by decide +kernel
theorem dX4_hasPrimeOfRestThree_36 : decode cX4_hasPrimeOfRestThree 36 = .ok (.goto (-34), 3) := by decide +kernel
theorem dX4_hasPrimeOfRestThree_39 : decode cX4_hasPrimeOfRestThree 39 = .ok (.iconst 0, 1) := by decide +kernel
theorem dX4_hasPrimeOfRestThree_40 : decode cX4_hasPrimeOfRestThree 40 = .ok (.ireturn, 1) := by decide +kernel
set_option maxRecDepth 20000 in
theorem ggX5_seedOf_J6_bitCount_0f7a4 : GoodIn wsX5_seedOf wsJ6_bitCount_0f7a4 := goodIn_r _ [4, 5, 6, 7] (by decide +kernel) (by decide +kernel)
set_option maxRecDepth 20000 in
theorem gX5_seedOf_J6_bitCount_0f7a4 : GoodIn wsX5_seedOf (va_wsS RX5 7 yJ6_bitCount_0f7a4 wsJ6_bitCount_0f7a4) := goodIn_app (goodIn_of _ (by decide +kernel)) ggX5_seedOf_J6_bitCount_0f7a4
theorem dX5_seedOf_0 : decode cX5_seedOf 0 = .ok (.iload_n 0, 1) := by decide +kernel
theorem dX5_seedOf_1 : decode cX5_seedOf 1 = .ok (.bipush 26, 2) := by decide +kernel
theorem dX5_seedOf_3 : decode cX5_seedOf 3 = .ok (.if_icmp .ne 6, 3) := by decide +kernel
theorem dX5_seedOf_6 : decode cX5_seedOf 6 = .ok (.bipush 26, 2) := by decide +kernel
theorem dX5_seedOf_8 : decode cX5_seedOf 8 = .ok (.ireturn, 1) := by decide +kernel
theorem dX5_seedOf_9 : decode cX5_seedOf 9 = .ok (.iload_n 0, 1) := by decide +kernel
theorem dX5_seedOf_10 : decode cX5_seedOf 10 = .ok (.bipush 10, 2) := by decide +kernel
theorem dX5_seedOf_12 : decode cX5_seedOf 12 = .ok (.if_icmp .eq 9, 3) := by decide +kernel
theorem dX5_seedOf_15 : decode cX5_seedOf 15 = .ok (.iload_n 0, 1) := by decide +kernel
theorem dX5_seedOf_16 : decode cX5_seedOf 16 = .ok (.bipush 20, 2) := by decide +kernel
theorem dX5_seedOf_18 : decode cX5_seedOf 18 = .ok (.if_icmp .ne 6, 3) := by decide +kernel
theorem dX5_seedOf_21 : decode cX5_seedOf 21 = .ok (.bipush 10, 2) := by decide +kernel
theorem dX5_seedOf_23 : decode cX5_seedOf 23 = .ok (.ireturn, 1) := by decide +kernel
theorem dX5_seedOf_24 : decode cX5_seedOf 24 = .ok (.iload_n 0, 1) := by decide +kernel
theorem dX5_seedOf_25 : decode cX5_seedOf 25 = .ok (.invokestatic 7, 3) := by decide +kernel
theorem dX5_seedOf_28 : decode cX5_seedOf 28 = .ok (.iconst 1, 1) := by decide +kernel
theorem dX5_seedOf_29 : decode cX5_seedOf 29 = .ok (.if_icmp .ne 7, 3) := by decide +kernel
theorem dX5_seedOf_32 : decode cX5_seedOf 32 = .ok (.iconst 1, 1) := by decide +kernel
theorem dX5_seedOf_33 : decode cX5_seedOf 33 = .ok (.goto 4, 3) := by decide +kernel
theorem dX5_seedOf_36 : decode cX5_seedOf 36 = .ok (.iconst 0, 1) := by decide +kernel
theorem dX5_seedOf_37 : decode cX5_seedOf 37 = .ok (.ireturn, 1) := by decide +kernel
theorem dX5_firstOfSeed_0 : decode cX5_firstOfSeed 0 = .ok (.iload_n 0, 1) := by decide +kernel
theorem dX5_firstOfSeed_1 : decode cX5_firstOfSeed 1 = .ok (.bipush 26, 2) := by decide +kernel
theorem dX5_firstOfSeed_3 : decode cX5_firstOfSeed 3 = .ok (.if_icmp .ne 7, 3) := by decide +kernel
theorem dX5_firstOfSeed_6 : decode cX5_firstOfSeed 6 = .ok (.ldc2_w 15, 3) := by decide +kernel
theorem dX5_firstOfSeed_9 : decode cX5_firstOfSeed 9 = .ok (.lreturn, 1) := by decide +kernel
theorem dX5_firstOfSeed_10 : decode cX5_firstOfSeed 10 = .ok (.iload_n 0, 1) := by decide +kernel
theorem dX5_firstOfSeed_11 : decode cX5_firstOfSeed 11 = .ok (.bipush 10, 2) := by decide +kernel
theorem dX5_firstOfSeed_13 : decode cX5_firstOfSeed 13 = .ok (.if_icmp .ne 9, 3) := by decide +kernel
theorem dX5_firstOfSeed_16 : decode cX5_firstOfSeed 16 = .ok (.ldc2_w 17, 3) := by decide +kernel
theorem dX5_firstOfSeed_19 : decode cX5_firstOfSeed 19 = .ok (.goto 4, 3) := by decide +kernel
theorem dX5_firstOfSeed_22 : decode cX5_firstOfSeed 22 = .ok (.lconst 0, 1) := by decide +kernel
theorem dX5_firstOfSeed_23 : decode cX5_firstOfSeed 23 = .ok (.lreturn, 1) := by decide +kernel
theorem dX5_secondOfSeed_0 : decode cX5_secondOfSeed 0 = .ok (.iload_n 0, 1) := by decide +kernel
theorem dX5_secondOfSeed_1 : decode cX5_secondOfSeed 1 = .ok (.bipush 26, 2) := by decide +kernel
theorem dX5_secondOfSeed_3 : decode cX5_secondOfSeed 3 = .ok (.if_icmp .ne 7, 3) := by decide +kernel
theorem dX5_secondOfSeed_6 : decode cX5_secondOfSeed 6 = .ok (.ldc2_w 19, 3) := by decide +kernel
theorem dX5_secondOfSeed_9 : decode cX5_secondOfSeed 9 = .ok (.lreturn, 1) := by decide +kernel
theorem dX5_secondOfSeed_10 : decode cX5_secondOfSeed 10 = .ok (.iload_n 0, 1) := by decide +kernel
theorem dX5_secondOfSeed_11 : decode cX5_secondOfSeed 11 = .ok (.bipush 10, 2) := by decide +kernel
theorem dX5_secondOfSeed_13 : decode cX5_secondOfSeed 13 = .ok (.if_icmp .ne 9, 3) := by decide +kernel
theorem dX5_secondOfSeed_16 : decode cX5_secondOfSeed 16 = .ok (.ldc2_w 21, 3) := by decide +kernel
theorem dX5_secondOfSeed_19 : decode cX5_secondOfSeed 19 = .ok (.goto 4, 3) := by decide +kernel
theorem dX5_secondOfSeed_22 : decode cX5_secondOfSeed 22 = .ok (.lconst 0, 1) := by decide +kernel
theorem dX5_secondOfSeed_23 : decode cX5_secondOfSeed 23 = .ok (.lreturn, 1) := by decide +kernel
set_option maxRecDepth 20000 in
theorem ggJ6_valueOf_2dffe_J6_init_d00df : GoodIn wsJ6_valueOf_2dffe wsJ6_init_d00df := goodIn_r _ [8, 9, 10, 11, 12, 13, 14, 15, 16, 17] (by decide +kernel) (by decide +kernel)
set_option maxRecDepth 20000 in
theorem gJ6_valueOf_2dffe_J6_init_d00df : GoodIn wsJ6_valueOf_2dffe (wsJ6_init_d00df) := ggJ6_valueOf_2dffe_J6_init_d00df
theorem dJ6_valueOf_2dffe_0 : decode cJ6_valueOf_2dffe 0 = .ok (.iload_n 0, 1) := by decide +kernel
theorem dJ6_valueOf_2dffe_1 : decode cJ6_valueOf_2dffe 1 = .ok (.bipush (-128), 2) := by decide +kernel
theorem dJ6_valueOf_2dffe_3 : decode cJ6_valueOf_2dffe 3 = .ok (.if_icmp .lt 20, 3) := by decide +kernel
theorem dJ6_valueOf_2dffe_6 : decode cJ6_valueOf_2dffe 6 = .ok (.iload_n 0, 1) := by decide +kernel
theorem dJ6_valueOf_2dffe_7 : decode cJ6_valueOf_2dffe 7 = .ok (.getstatic 191, 3) := by decide +kernel
theorem dJ6_valueOf_2dffe_10 : decode cJ6_valueOf_2dffe 10 = .ok (.if_icmp .gt 13, 3) := by decide +kernel
theorem dJ6_valueOf_2dffe_13 : decode cJ6_valueOf_2dffe 13 = .ok (.getstatic 195, 3) := by decide +kernel
theorem dJ6_valueOf_2dffe_16 : decode cJ6_valueOf_2dffe 16 = .ok (.iload_n 0, 1) := by decide +kernel
theorem dJ6_valueOf_2dffe_17 : decode cJ6_valueOf_2dffe 17 = .ok (.sipush 128, 3) := by decide +kernel
theorem dJ6_valueOf_2dffe_20 : decode cJ6_valueOf_2dffe 20 = .ok (.iadd, 1) := by decide +kernel
theorem dJ6_valueOf_2dffe_21 : decode cJ6_valueOf_2dffe 21 = .ok (.aaload, 1) := by decide +kernel
theorem dJ6_valueOf_2dffe_22 : decode cJ6_valueOf_2dffe 22 = .ok (.areturn, 1) := by decide +kernel
theorem dJ6_valueOf_2dffe_23 : decode cJ6_valueOf_2dffe 23 = .ok (.new 1, 3) := by decide +kernel
theorem dJ6_valueOf_2dffe_26 : decode cJ6_valueOf_2dffe 26 = .ok (.dup, 1) := by decide +kernel
theorem dJ6_valueOf_2dffe_27 : decode cJ6_valueOf_2dffe 27 = .ok (.iload_n 0, 1) := by decide +kernel
theorem dJ6_valueOf_2dffe_28 : decode cJ6_valueOf_2dffe 28 = .ok (.invokespecial 199, 3) := by decide +kernel
theorem dJ6_valueOf_2dffe_31 : decode cJ6_valueOf_2dffe 31 = .ok (.areturn, 1) := by decide +kernel
set_option maxRecDepth 20000 in
theorem ggJ6_init_d00df_Jxd2413_init_da8c8 : GoodIn wsJ6_init_d00df wsJxd2413_init_da8c8 := goodIn_r _ [5, 6, 7, 8] (by decide +kernel) (by decide +kernel)
set_option maxRecDepth 20000 in
theorem gJ6_init_d00df_Jxd2413_init_da8c8 : GoodIn wsJ6_init_d00df (wsJxd2413_init_da8c8) := ggJ6_init_d00df_Jxd2413_init_da8c8
theorem dJ6_init_d00df_0 : decode cJ6_init_d00df 0 = .ok (.aload_n 0, 1) := by decide +kernel
theorem dJ6_init_d00df_1 : decode cJ6_init_d00df 1 = .ok (.invokespecial 202, 3) := by decide +kernel
theorem dJ6_init_d00df_4 : decode cJ6_init_d00df 4 = .ok (.aload_n 0, 1) := by decide +kernel
theorem dJ6_init_d00df_5 : decode cJ6_init_d00df 5 = .ok (.iload_n 1, 1) := by decide +kernel
theorem dJ6_init_d00df_6 : decode cJ6_init_d00df 6 = .ok (.putfield 205, 3) := by decide +kernel
theorem dJ6_init_d00df_9 : decode cJ6_init_d00df 9 = .ok (.return_, 1) := by decide +kernel
theorem dJ6_intValue_8abf5_0 : decode cJ6_intValue_8abf5 0 = .ok (.aload_n 0, 1) := by decide +kernel
theorem dJ6_intValue_8abf5_1 : decode cJ6_intValue_8abf5 1 = .ok (.getfield 205, 3) := by decide +kernel
theorem dJ6_intValue_8abf5_4 : decode cJ6_intValue_8abf5 4 = .ok (.ireturn, 1) := by decide +kernel
theorem dJ6_bitCount_0f7a4_0 : decode cJ6_bitCount_0f7a4 0 = .ok (.iload_n 0, 1) := by decide +kernel
theorem dJ6_bitCount_0f7a4_1 : decode cJ6_bitCount_0f7a4 1 = .ok (.iload_n 0, 1) := by decide +kernel
theorem dJ6_bitCount_0f7a4_2 : decode cJ6_bitCount_0f7a4 2 = .ok (.iconst 1, 1) := by decide +kernel
theorem dJ6_bitCount_0f7a4_3 : decode cJ6_bitCount_0f7a4 3 = .ok (.iushr, 1) := by decide +kernel
theorem dJ6_bitCount_0f7a4_4 : decode cJ6_bitCount_0f7a4 4 = .ok (.ldc_w 265, 3) := by decide +kernel
theorem dJ6_bitCount_0f7a4_7 : decode cJ6_bitCount_0f7a4 7 = .ok (.iand, 1) := by decide +kernel
theorem dJ6_bitCount_0f7a4_8 : decode cJ6_bitCount_0f7a4 8 = .ok (.isub, 1) := by decide +kernel
theorem dJ6_bitCount_0f7a4_9 : decode cJ6_bitCount_0f7a4 9 = .ok (.istore_n 0, 1) := by decide +kernel
theorem dJ6_bitCount_0f7a4_10 : decode cJ6_bitCount_0f7a4 10 = .ok (.iload_n 0, 1) := by decide +kernel
theorem dJ6_bitCount_0f7a4_11 : decode cJ6_bitCount_0f7a4 11 = .ok (.ldc_w 266, 3) := by decide +kernel
theorem dJ6_bitCount_0f7a4_14 : decode cJ6_bitCount_0f7a4 14 = .ok (.iand, 1) := by decide +kernel
theorem dJ6_bitCount_0f7a4_15 : decode cJ6_bitCount_0f7a4 15 = .ok (.iload_n 0, 1) := by decide +kernel
theorem dJ6_bitCount_0f7a4_16 : decode cJ6_bitCount_0f7a4 16 = .ok (.iconst 2, 1) := by decide +kernel
theorem dJ6_bitCount_0f7a4_17 : decode cJ6_bitCount_0f7a4 17 = .ok (.iushr, 1) := by decide +kernel
theorem dJ6_bitCount_0f7a4_18 : decode cJ6_bitCount_0f7a4 18 = .ok (.ldc_w 266, 3) := by decide +kernel
theorem dJ6_bitCount_0f7a4_21 : decode cJ6_bitCount_0f7a4 21 = .ok (.iand, 1) := by decide +kernel
theorem dJ6_bitCount_0f7a4_22 : decode cJ6_bitCount_0f7a4 22 = .ok (.iadd, 1) := by decide +kernel
theorem dJ6_bitCount_0f7a4_23 : decode cJ6_bitCount_0f7a4 23 = .ok (.istore_n 0, 1) := by decide +kernel
theorem dJ6_bitCount_0f7a4_24 : decode cJ6_bitCount_0f7a4 24 = .ok (.iload_n 0, 1) := by decide +kernel
theorem dJ6_bitCount_0f7a4_25 : decode cJ6_bitCount_0f7a4 25 = .ok (.iload_n 0, 1) := by decide +kernel
theorem dJ6_bitCount_0f7a4_26 : decode cJ6_bitCount_0f7a4 26 = .ok (.iconst 4, 1) := by decide +kernel
theorem dJ6_bitCount_0f7a4_27 : decode cJ6_bitCount_0f7a4 27 = .ok (.iushr, 1) := by decide +kernel
theorem dJ6_bitCount_0f7a4_28 : decode cJ6_bitCount_0f7a4 28 = .ok (.iadd, 1) := by decide +kernel
theorem dJ6_bitCount_0f7a4_29 : decode cJ6_bitCount_0f7a4 29 = .ok (.ldc_w 267, 3) := by decide +kernel
theorem dJ6_bitCount_0f7a4_32 : decode cJ6_bitCount_0f7a4 32 = .ok (.iand, 1) := by decide +kernel
theorem dJ6_bitCount_0f7a4_33 : decode cJ6_bitCount_0f7a4 33 = .ok (.istore_n 0, 1) := by decide +kernel
theorem dJ6_bitCount_0f7a4_34 : decode cJ6_bitCount_0f7a4 34 = .ok (.iload_n 0, 1) := by decide +kernel
theorem dJ6_bitCount_0f7a4_35 : decode cJ6_bitCount_0f7a4 35 = .ok (.iload_n 0, 1) := by decide +kernel
theorem dJ6_bitCount_0f7a4_36 : decode cJ6_bitCount_0f7a4 36 = .ok (.bipush 8, 2) := by decide +kernel
theorem dJ6_bitCount_0f7a4_38 : decode cJ6_bitCount_0f7a4 38 = .ok (.iushr, 1) := by decide +kernel
theorem dJ6_bitCount_0f7a4_39 : decode cJ6_bitCount_0f7a4 39 = .ok (.iadd, 1) := by decide +kernel
theorem dJ6_bitCount_0f7a4_40 : decode cJ6_bitCount_0f7a4 40 = .ok (.istore_n 0, 1) := by decide +kernel
theorem dJ6_bitCount_0f7a4_41 : decode cJ6_bitCount_0f7a4 41 = .ok (.iload_n 0, 1) := by decide +kernel
theorem dJ6_bitCount_0f7a4_42 : decode cJ6_bitCount_0f7a4 42 = .ok (.iload_n 0, 1) := by decide +kernel
theorem dJ6_bitCount_0f7a4_43 : decode cJ6_bitCount_0f7a4 43 = .ok (.bipush 16, 2) := by decide +kernel
theorem dJ6_bitCount_0f7a4_45 : decode cJ6_bitCount_0f7a4 45 = .ok (.iushr, 1) := by decide +kernel
theorem dJ6_bitCount_0f7a4_46 : decode cJ6_bitCount_0f7a4 46 = .ok (.iadd, 1) := by decide +kernel
theorem dJ6_bitCount_0f7a4_47 : decode cJ6_bitCount_0f7a4 47 = .ok (.istore_n 0, 1) := by decide +kernel
theorem dJ6_bitCount_0f7a4_48 : decode cJ6_bitCount_0f7a4 48 = .ok (.iload_n 0, 1) := by decide +kernel
theorem dJ6_bitCount_0f7a4_49 : decode cJ6_bitCount_0f7a4 49 = .ok (.bipush 63, 2) := by decide +kernel
theorem dJ6_bitCount_0f7a4_51 : decode cJ6_bitCount_0f7a4 51 = .ok (.iand, 1) := by decide +kernel
theorem dJ6_bitCount_0f7a4_52 : decode cJ6_bitCount_0f7a4 52 = .ok (.ireturn, 1) := by decide +kernel
theorem dJ13_bitCount_95d88_0 : decode cJ13_bitCount_95d88 0 = .ok (.lload_n 0, 1) := by decide +kernel
theorem dJ13_bitCount_95d88_1 : decode cJ13_bitCount_95d88 1 = .ok (.lload_n 0, 1) := by decide +kernel
theorem dJ13_bitCount_95d88_2 : decode cJ13_bitCount_95d88 2 = .ok (.iconst 1, 1) := by decide +kernel
theorem dJ13_bitCount_95d88_3 : decode cJ13_bitCount_95d88 3 = .ok (.lushr, 1) := by decide +kernel
theorem dJ13_bitCount_95d88_4 : decode cJ13_bitCount_95d88 4 = .ok (.ldc2_w 314, 3) := by decide +kernel
theorem dJ13_bitCount_95d88_7 : decode cJ13_bitCount_95d88 7 = .ok (.land, 1) := by decide +kernel
theorem dJ13_bitCount_95d88_8 : decode cJ13_bitCount_95d88 8 = .ok (.lsub, 1) := by decide +kernel
theorem dJ13_bitCount_95d88_9 : decode cJ13_bitCount_95d88 9 = .ok (.lstore_n 0, 1) := by decide +kernel
theorem dJ13_bitCount_95d88_10 : decode cJ13_bitCount_95d88 10 = .ok (.lload_n 0, 1) := by decide +kernel
theorem dJ13_bitCount_95d88_11 : decode cJ13_bitCount_95d88 11 = .ok (.ldc2_w 316, 3) := by decide +kernel
theorem dJ13_bitCount_95d88_14 : decode cJ13_bitCount_95d88 14 = .ok (.land, 1) := by decide +kernel
theorem dJ13_bitCount_95d88_15 : decode cJ13_bitCount_95d88 15 = .ok (.lload_n 0, 1) := by decide +kernel
theorem dJ13_bitCount_95d88_16 : decode cJ13_bitCount_95d88 16 = .ok (.iconst 2, 1) := by decide +kernel
theorem dJ13_bitCount_95d88_17 : decode cJ13_bitCount_95d88 17 = .ok (.lushr, 1) := by decide +kernel
theorem dJ13_bitCount_95d88_18 : decode cJ13_bitCount_95d88 18 = .ok (.ldc2_w 316, 3) := by decide +kernel
theorem dJ13_bitCount_95d88_21 : decode cJ13_bitCount_95d88 21 = .ok (.land, 1) := by decide +kernel
theorem dJ13_bitCount_95d88_22 : decode cJ13_bitCount_95d88 22 = .ok (.ladd, 1) := by decide +kernel
theorem dJ13_bitCount_95d88_23 : decode cJ13_bitCount_95d88 23 = .ok (.lstore_n 0, 1) := by decide +kernel
theorem dJ13_bitCount_95d88_24 : decode cJ13_bitCount_95d88 24 = .ok (.lload_n 0, 1) := by decide +kernel
theorem dJ13_bitCount_95d88_25 : decode cJ13_bitCount_95d88 25 = .ok (.lload_n 0, 1) := by decide +kernel
theorem dJ13_bitCount_95d88_26 : decode cJ13_bitCount_95d88 26 = .ok (.iconst 4, 1) := by decide +kernel
theorem dJ13_bitCount_95d88_27 : decode cJ13_bitCount_95d88 27 = .ok (.lushr, 1) := by decide +kernel
theorem dJ13_bitCount_95d88_28 : decode cJ13_bitCount_95d88 28 = .ok (.ladd, 1) := by decide +kernel
theorem dJ13_bitCount_95d88_29 : decode cJ13_bitCount_95d88 29 = .ok (.ldc2_w 318, 3) := by decide +kernel
theorem dJ13_bitCount_95d88_32 : decode cJ13_bitCount_95d88 32 = .ok (.land, 1) := by decide +kernel
theorem dJ13_bitCount_95d88_33 : decode cJ13_bitCount_95d88 33 = .ok (.lstore_n 0, 1) := by decide +kernel
theorem dJ13_bitCount_95d88_34 : decode cJ13_bitCount_95d88 34 = .ok (.lload_n 0, 1) := by decide +kernel
theorem dJ13_bitCount_95d88_35 : decode cJ13_bitCount_95d88 35 = .ok (.lload_n 0, 1) := by decide +kernel
theorem dJ13_bitCount_95d88_36 : decode cJ13_bitCount_95d88 36 = .ok (.bipush 8, 2) := by decide +kernel
theorem dJ13_bitCount_95d88_38 : decode cJ13_bitCount_95d88 38 = .ok (.lushr, 1) := by decide +kernel
theorem dJ13_bitCount_95d88_39 : decode cJ13_bitCount_95d88 39 = .ok (.ladd, 1) := by decide +kernel
theorem dJ13_bitCount_95d88_40 : decode cJ13_bitCount_95d88 40 = .ok (.lstore_n 0, 1) := by decide +kernel
theorem dJ13_bitCount_95d88_41 : decode cJ13_bitCount_95d88 41 = .ok (.lload_n 0, 1) := by decide +kernel
theorem dJ13_bitCount_95d88_42 : decode cJ13_bitCount_95d88 42 = .ok (.lload_n 0, 1) := by decide +kernel
theorem dJ13_bitCount_95d88_43 : decode cJ13_bitCount_95d88 43 = .ok (.bipush 16, 2) := by decide +kernel
theorem dJ13_bitCount_95d88_45 : decode cJ13_bitCount_95d88 45 = .ok (.lushr, 1) := by decide +kernel
theorem dJ13_bitCount_95d88_46 : decode cJ13_bitCount_95d88 46 = .ok (.ladd, 1) := by decide +kernel
theorem dJ13_bitCount_95d88_47 : decode cJ13_bitCount_95d88 47 = .ok (.lstore_n 0, 1) := by decide +kernel
theorem dJ13_bitCount_95d88_48 : decode cJ13_bitCount_95d88 48 = .ok (.lload_n 0, 1) := by decide +kernel
theorem dJ13_bitCount_95d88_49 : decode cJ13_bitCount_95d88 49 = .ok (.lload_n 0, 1) := by decide +kernel
theorem dJ13_bitCount_95d88_50 : decode cJ13_bitCount_95d88 50 = .ok (.bipush 32, 2) := by decide +kernel
theorem dJ13_bitCount_95d88_52 : decode cJ13_bitCount_95d88 52 = .ok (.lushr, 1) := by decide +kernel
theorem dJ13_bitCount_95d88_53 : decode cJ13_bitCount_95d88 53 = .ok (.ladd, 1) := by decide +kernel
theorem dJ13_bitCount_95d88_54 : decode cJ13_bitCount_95d88 54 = .ok (.lstore_n 0, 1) := by decide +kernel
theorem dJ13_bitCount_95d88_55 : decode cJ13_bitCount_95d88 55 = .ok (.lload_n 0, 1) := by decide +kernel
theorem dJ13_bitCount_95d88_56 : decode cJ13_bitCount_95d88 56 = .ok (.l2i, 1) := by decide +kernel
theorem dJ13_bitCount_95d88_57 : decode cJ13_bitCount_95d88 57 = .ok (.bipush 127, 2) := by decide +kernel
theorem dJ13_bitCount_95d88_59 : decode cJ13_bitCount_95d88 59 = .ok (.iand, 1) := by decide +kernel
theorem dJ13_bitCount_95d88_60 : decode cJ13_bitCount_95d88 60 = .ok (.ireturn, 1) := by decide +kernel
theorem dJ9_abs_0f7a4_0 : decode cJ9_abs_0f7a4 0 = .ok (.iload_n 0, 1) := by decide +kernel
theorem dJ9_abs_0f7a4_1 : decode cJ9_abs_0f7a4 1 = .ok (.ifCond .ge 8, 3) := by decide +kernel
theorem dJ9_abs_0f7a4_4 : decode cJ9_abs_0f7a4 4 = .ok (.iload_n 0, 1) := by decide +kernel
theorem dJ9_abs_0f7a4_5 : decode cJ9_abs_0f7a4 5 = .ok (.ineg, 1) := by decide +kernel
theorem dJ9_abs_0f7a4_6 : decode cJ9_abs_0f7a4 6 = .ok (.goto 4, 3) := by decide +kernel
theorem dJ9_abs_0f7a4_9 : decode cJ9_abs_0f7a4 9 = .ok (.iload_n 0, 1) := by decide +kernel
theorem dJ9_abs_0f7a4_10 : decode cJ9_abs_0f7a4 10 = .ok (.ireturn, 1) := by decide +kernel
theorem dJ9_max_7cf53_0 : decode cJ9_max_7cf53 0 = .ok (.iload_n 0, 1) := by decide +kernel
theorem dJ9_max_7cf53_1 : decode cJ9_max_7cf53 1 = .ok (.iload_n 1, 1) := by decide +kernel
theorem dJ9_max_7cf53_2 : decode cJ9_max_7cf53 2 = .ok (.if_icmp .lt 7, 3) := by decide +kernel
theorem dJ9_max_7cf53_5 : decode cJ9_max_7cf53 5 = .ok (.iload_n 0, 1) := by decide +kernel
theorem dJ9_max_7cf53_6 : decode cJ9_max_7cf53 6 = .ok (.goto 4, 3) := by decide +kernel
theorem dJ9_max_7cf53_9 : decode cJ9_max_7cf53 9 = .ok (.iload_n 1, 1) := by decide +kernel
theorem dJ9_max_7cf53_10 : decode cJ9_max_7cf53 10 = .ok (.ireturn, 1) := by decide +kernel
theorem dJ9_min_7cf53_0 : decode cJ9_min_7cf53 0 = .ok (.iload_n 0, 1) := by decide +kernel
theorem dJ9_min_7cf53_1 : decode cJ9_min_7cf53 1 = .ok (.iload_n 1, 1) := by decide +kernel
theorem dJ9_min_7cf53_2 : decode cJ9_min_7cf53 2 = .ok (.if_icmp .gt 7, 3) := by decide +kernel
theorem dJ9_min_7cf53_5 : decode cJ9_min_7cf53 5 = .ok (.iload_n 0, 1) := by decide +kernel
theorem dJ9_min_7cf53_6 : decode cJ9_min_7cf53 6 = .ok (.goto 4, 3) := by decide +kernel
theorem dJ9_min_7cf53_9 : decode cJ9_min_7cf53 9 = .ok (.iload_n 1, 1) := by decide +kernel
theorem dJ9_min_7cf53_10 : decode cJ9_min_7cf53 10 = .ok (.ireturn, 1) := by decide +kernel
theorem dJ9_min_f86c9_0 : decode cJ9_min_f86c9 0 = .ok (.lload_n 0, 1) := by decide +kernel
theorem dJ9_min_f86c9_1 : decode cJ9_min_f86c9 1 = .ok (.lload_n 2, 1) := by decide +kernel
theorem dJ9_min_f86c9_2 : decode cJ9_min_f86c9 2 = .ok (.lcmp, 1) := by decide +kernel
theorem dJ9_min_f86c9_3 : decode cJ9_min_f86c9 3 = .ok (.ifCond .gt 7, 3) := by decide +kernel
theorem dJ9_min_f86c9_6 : decode cJ9_min_f86c9 6 = .ok (.lload_n 0, 1) := by decide +kernel
theorem dJ9_min_f86c9_7 : decode cJ9_min_f86c9 7 = .ok (.goto 4, 3) := by decide +kernel
theorem dJ9_min_f86c9_10 : decode cJ9_min_f86c9 10 = .ok (.lload_n 2, 1) := by decide +kernel
theorem dJ9_min_f86c9_11 : decode cJ9_min_f86c9 11 = .ok (.lreturn, 1) := by decide +kernel
theorem dJxd2413_init_da8c8_0 : decode cJxd2413_init_da8c8 0 = .ok (.aload_n 0, 1) := by decide +kernel
theorem dJxd2413_init_da8c8_1 : decode cJxd2413_init_da8c8 1 = .ok (.invokespecial 1, 3) := by decide +kernel
theorem dJxd2413_init_da8c8_4 : decode cJxd2413_init_da8c8 4 = .ok (.return_, 1) := by decide +kernel
theorem dJxa1e45_init_da8c8_0 : decode cJxa1e45_init_da8c8 0 = .ok (.aload_n 0, 1) := by decide +kernel
theorem dJxa1e45_init_da8c8_1 : decode cJxa1e45_init_da8c8 1 = .ok (.invokespecial 1, 3) := by decide +kernel
theorem dJxa1e45_init_da8c8_4 : decode cJxa1e45_init_da8c8 4 = .ok (.return_, 1) := by decide +kernel
set_option maxRecDepth 20000 in
theorem ggJxc12de_init_da8c8_Jxa1e45_init_da8c8 : GoodIn wsJxc12de_init_da8c8 wsJxa1e45_init_da8c8 := goodIn_r _ [5, 6, 7, 8] (by decide +kernel) (by decide +kernel)
set_option maxRecDepth 20000 in
theorem gJxc12de_init_da8c8_Jxa1e45_init_da8c8 : GoodIn wsJxc12de_init_da8c8 (wsJxa1e45_init_da8c8) := ggJxc12de_init_da8c8_Jxa1e45_init_da8c8
theorem dJxc12de_init_da8c8_0 : decode cJxc12de_init_da8c8 0 = .ok (.aload_n 0, 1) := by decide +kernel
theorem dJxc12de_init_da8c8_1 : decode cJxc12de_init_da8c8 1 = .ok (.invokespecial 1, 3) := by decide +kernel
theorem dJxc12de_init_da8c8_4 : decode cJxc12de_init_da8c8 4 = .ok (.aload_n 0, 1) := by decide +kernel
theorem dJxc12de_init_da8c8_5 : decode cJxc12de_init_da8c8 5 = .ok (.iconst 0, 1) := by decide +kernel
theorem dJxc12de_init_da8c8_6 : decode cJxc12de_init_da8c8 6 = .ok (.putfield 7, 3) := by decide +kernel
theorem dJxc12de_init_da8c8_9 : decode cJxc12de_init_da8c8 9 = .ok (.return_, 1) := by decide +kernel
set_option maxRecDepth 20000 in
theorem ggJx4a65c_init_da8c8_Jxc12de_init_da8c8 : GoodIn wsJx4a65c_init_da8c8 wsJxc12de_init_da8c8 := goodIn_r _ [6, 7, 8, 9, 10, 11, 12, 13, 14, 15, 16, 17] (by decide +kernel) (by decide +kernel)
set_option maxRecDepth 20000 in
theorem gJx4a65c_init_da8c8_Jxc12de_init_da8c8 : GoodIn wsJx4a65c_init_da8c8 (wsJxc12de_init_da8c8) := ggJx4a65c_init_da8c8_Jxc12de_init_da8c8
theorem dJx4a65c_init_da8c8_0 : decode cJx4a65c_init_da8c8 0 = .ok (.aload_n 0, 1) := by decide +kernel
theorem dJx4a65c_init_da8c8_1 : decode cJx4a65c_init_da8c8 1 = .ok (.invokespecial 1, 3) := by decide +kernel
theorem dJx4a65c_init_da8c8_4 : decode cJx4a65c_init_da8c8 4 = .ok (.aload_n 0, 1) := by decide +kernel
theorem dJx4a65c_init_da8c8_5 : decode cJx4a65c_init_da8c8 5 = .ok (.getstatic 39, 3) := by decide +kernel
theorem dJx4a65c_init_da8c8_8 : decode cJx4a65c_init_da8c8 8 = .ok (.putfield 9, 3) := by decide +kernel
theorem dJx4a65c_init_da8c8_11 : decode cJx4a65c_init_da8c8 11 = .ok (.return_, 1) := by decide +kernel
set_option maxRecDepth 20000 in
theorem ggJx4a65c_grow_92f84_J8_newLength_cabcc : GoodIn wsJx4a65c_grow_92f84 wsJ8_newLength_cabcc := goodIn_r _ [11, 12, 4, 5, 6, 13, 14, 15, 10, 16] (by decide +kernel) (by decide +kernel)
set_option maxRecDepth 20000 in
theorem gJx4a65c_grow_92f84_J8_newLength_cabcc : GoodIn wsJx4a65c_grow_92f84 (va_wsS RJx4a65c 73 yJ8_newLength_cabcc wsJ8_newLength_cabcc) := goodIn_app (goodIn_of _ (by decide +kernel)) ggJx4a65c_grow_92f84_J8_newLength_cabcc
set_option maxRecDepth 20000 in
theorem ggJx4a65c_grow_92f84_J7_copyOf_1904c : GoodIn wsJx4a65c_grow_92f84 wsJ7_copyOf_1904c := goodIn_r _ [20, 21, 22, 23, 24, 25, 26, 19, 27, 28, 29, 30, 31, 5, 32, 33, 34, 35, 36] (by decide +kernel) (by decide +kernel)
set_option maxRecDepth 20000 in
theorem gJx4a65c_grow_92f84_J7_copyOf_1904c : GoodIn wsJx4a65c_grow_92f84 (va_wsS RJx4a65c 66 yJ7_copyOf_1904c wsJ7_copyOf_1904c) := goodIn_app (goodIn_of _ (by decide +kernel)) ggJx4a65c_grow_92f84_J7_copyOf_1904c
theorem dJx4a65c_grow_92f84_0 : decode cJx4a65c_grow_92f84 0 = .ok (.aload_n 0, 1) := by decide +kernel
theorem dJx4a65c_grow_92f84_1 : decode cJx4a65c_grow_92f84 1 = .ok (.getfield 9, 3) := by decide +kernel
theorem dJx4a65c_grow_92f84_4 : decode cJx4a65c_grow_92f84 4 = .ok (.arraylength, 1) := by decide +kernel
theorem dJx4a65c_grow_92f84_5 : decode cJx4a65c_grow_92f84 5 = .ok (.istore_n 2, 1) := by decide +kernel
theorem dJx4a65c_grow_92f84_6 : decode cJx4a65c_grow_92f84 6 = .ok (.iload_n 2, 1) := by decide +kernel
theorem dJx4a65c_grow_92f84_7 : decode cJx4a65c_grow_92f84 7 = .ok (.ifCond .gt 13, 3) := by decide +kernel
theorem dJx4a65c_grow_92f84_10 : decode cJx4a65c_grow_92f84 10 = .ok (.aload_n 0, 1) := by decide +kernel
theorem dJx4a65c_grow_92f84_11 : decode cJx4a65c_grow_92f84 11 = .ok (.getfield 9, 3) := by decide +kernel
theorem dJx4a65c_grow_92f84_14 : decode cJx4a65c_grow_92f84 14 = .ok (.getstatic 39, 3) := by decide +kernel
theorem dJx4a65c_grow_92f84_17 : decode cJx4a65c_grow_92f84 17 = .ok (.if_acmp .eq 28, 3) := by decide +kernel
theorem dJx4a65c_grow_92f84_20 : decode cJx4a65c_grow_92f84 20 = .ok (.iload_n 2, 1) := by decide +kernel
theorem dJx4a65c_grow_92f84_21 : decode cJx4a65c_grow_92f84 21 = .ok (.iload_n 1, 1) := by decide +kernel
theorem dJx4a65c_grow_92f84_22 : decode cJx4a65c_grow_92f84 22 = .ok (.iload_n 2, 1) := by decide +kernel
theorem dJx4a65c_grow_92f84_23 : decode cJx4a65c_grow_92f84 23 = .ok (.isub, 1) := by decide +kernel
theorem dJx4a65c_grow_92f84_24 : decode cJx4a65c_grow_92f84 24 = .ok (.iload_n 2, 1) := by decide +kernel
theorem dJx4a65c_grow_92f84_25 : decode cJx4a65c_grow_92f84 25 = .ok (.iconst 1, 1) := by decide +kernel
theorem dJx4a65c_grow_92f84_26 : decode cJx4a65c_grow_92f84 26 = .ok (.ishr, 1) := by decide +kernel
theorem dJx4a65c_grow_92f84_27 : decode cJx4a65c_grow_92f84 27 = .ok (.invokestatic 73, 3) := by decide +kernel
theorem dJx4a65c_grow_92f84_30 : decode cJx4a65c_grow_92f84 30 = .ok (.istore_n 3, 1) := by decide +kernel
theorem dJx4a65c_grow_92f84_31 : decode cJx4a65c_grow_92f84 31 = .ok (.aload_n 0, 1) := by decide +kernel
theorem dJx4a65c_grow_92f84_32 : decode cJx4a65c_grow_92f84 32 = .ok (.aload_n 0, 1) := by decide +kernel
theorem dJx4a65c_grow_92f84_33 : decode cJx4a65c_grow_92f84 33 = .ok (.getfield 9, 3) := by decide +kernel
theorem dJx4a65c_grow_92f84_36 : decode cJx4a65c_grow_92f84 36 = .ok (.iload_n 3, 1) := by decide +kernel
theorem dJx4a65c_grow_92f84_37 : decode cJx4a65c_grow_92f84 37 = .ok (.invokestatic 66, 3) := by decide +kernel
theorem dJx4a65c_grow_92f84_40 : decode cJx4a65c_grow_92f84 40 = .ok (.dup_x1, 1) := by decide +kernel
theorem dJx4a65c_grow_92f84_41 : decode cJx4a65c_grow_92f84 41 = .ok (.putfield 9, 3) := by decide +kernel
theorem dJx4a65c_grow_92f84_44 : decode cJx4a65c_grow_92f84 44 = .ok (.areturn, 1) := by decide +kernel
theorem dJx4a65c_grow_92f84_45 : decode cJx4a65c_grow_92f84 45 = .ok (.aload_n 0, 1) := by decide +kernel
theorem dJx4a65c_grow_92f84_46 : decode cJx4a65c_grow_92f84 46 = .ok (.bipush 10, 2) := by decide +kernel
theorem dJx4a65c_grow_92f84_48 : decode cJx4a65c_grow_92f84 48 = .ok (.iload_n 1, 1) := by decide +kernel
theorem dJx4a65c_grow_92f84_49 : decode cJx4a65c_grow_92f84 49 = .ok (.invokestatic 79, 3) := by decide +kernel
theorem dJx4a65c_grow_92f84_52 : decode cJx4a65c_grow_92f84 52 = .ok (.anewarray 7, 3) := by decide +kernel
theorem dJx4a65c_grow_92f84_55 : decode cJx4a65c_grow_92f84 55 = .ok (.dup_x1, 1) := by decide +kernel
theorem dJx4a65c_grow_92f84_56 : decode cJx4a65c_grow_92f84 56 = .ok (.putfield 9, 3) := by decide +kernel
theorem dJx4a65c_grow_92f84_59 : decode cJx4a65c_grow_92f84 59 = .ok (.areturn, 1) := by decide +kernel
set_option maxRecDepth 20000 in
theorem ggJx4a65c_grow_d5877_Jx4a65c_grow_92f84 : GoodIn wsJx4a65c_grow_d5877 wsJx4a65c_grow_92f84 := goodIn_r _ [6, 7, 8, 9, 10, 11, 12, 13, 14, 15, 16, 17, 18, 19, 20, 21, 22, 23, 24, 25, 26, 27, 28, 29, 30, 31, 32, 33, 34, 35, 36, 37, 38, 39, 40, 41, 42, 43, 44, 45] (by decide +kernel) (by decide +kernel)
set_option maxRecDepth 20000 in
theorem gJx4a65c_grow_d5877_Jx4a65c_grow_92f84 : GoodIn wsJx4a65c_grow_d5877 (wsV RJx4a65c 69 RJx4a65c yJx4a65c_grow_92f84 wsJx4a65c_grow_92f84) := goodIn_app (goodIn_of _ (by decide +kernel)) ggJx4a65c_grow_d5877_Jx4a65c_grow_92f84
theorem dJx4a65c_grow_d5877_0 : decode cJx4a65c_grow_d5877 0 = .ok (.aload_n 0, 1) := by decide +kernel
theorem dJx4a65c_grow_d5877_1 : decode cJx4a65c_grow_d5877 1 = .ok (.aload_n 0, 1) := by decide +kernel
theorem dJx4a65c_grow_d5877_2 : decode cJx4a65c_grow_d5877 2 = .ok (.getfield 48, 3) := by decide +kernel
theorem dJx4a65c_grow_d5877_5 : decode cJx4a65c_grow_d5877 5 = .ok (.iconst 1, 1) := by decide +kernel
theorem dJx4a65c_grow_d5877_6 : decode cJx4a65c_grow_d5877 6 = .ok (.iadd, 1) := by decide +kernel
theorem dJx4a65c_grow_d5877_7 : decode cJx4a65c_grow_d5877 7 = .ok (.invokevirtual 69, 3) := by decide +kernel
theorem dJx4a65c_grow_d5877_10 : decode cJx4a65c_grow_d5877 10 = .ok (.areturn, 1) := by decide +kernel
theorem dJx4a65c_size_8abf5_0 : decode cJx4a65c_size_8abf5 0 = .ok (.aload_n 0, 1) := by decide +kernel
theorem dJx4a65c_size_8abf5_1 : decode cJx4a65c_size_8abf5 1 = .ok (.getfield 48, 3) := by decide +kernel
theorem dJx4a65c_size_8abf5_4 : decode cJx4a65c_size_8abf5 4 = .ok (.ireturn, 1) := by decide +kernel
theorem dJx4a65c_elementData_915e3_0 : decode cJx4a65c_elementData_915e3 0 = .ok (.aload_n 0, 1) := by decide +kernel
theorem dJx4a65c_elementData_915e3_1 : decode cJx4a65c_elementData_915e3 1 = .ok (.getfield 9, 3) := by decide +kernel
theorem dJx4a65c_elementData_915e3_4 : decode cJx4a65c_elementData_915e3 4 = .ok (.iload_n 1, 1) := by decide +kernel
theorem dJx4a65c_elementData_915e3_5 : decode cJx4a65c_elementData_915e3 5 = .ok (.aaload, 1) := by decide +kernel
theorem dJx4a65c_elementData_915e3_6 : decode cJx4a65c_elementData_915e3 6 = .ok (.areturn, 1) := by decide +kernel
set_option maxRecDepth 20000 in
theorem ggJx4a65c_get_915e3_J15_checkIndex_7cf53 : GoodIn wsJx4a65c_get_915e3 wsJ15_checkIndex_7cf53 := goodIn_r _ [5, 6, 7, 8, 9] (by decide +kernel) (by decide +kernel)
set_option maxRecDepth 20000 in
theorem gJx4a65c_get_915e3_J15_checkIndex_7cf53 : GoodIn wsJx4a65c_get_915e3 (va_wsS RJx4a65c 118 yJ15_checkIndex_7cf53 wsJ15_checkIndex_7cf53) := goodIn_app (goodIn_of _ (by decide +kernel)) ggJx4a65c_get_915e3_J15_checkIndex_7cf53
set_option maxRecDepth 20000 in
theorem ggJx4a65c_get_915e3_Jx4a65c_elementData_915e3 : GoodIn wsJx4a65c_get_915e3 wsJx4a65c_elementData_915e3 := goodIn_r _ [14, 15, 16, 17, 18] (by decide +kernel) (by decide +kernel)
set_option maxRecDepth 20000 in
theorem gJx4a65c_get_915e3_Jx4a65c_elementData_915e3 : GoodIn wsJx4a65c_get_915e3 (wsV RJx4a65c 123 RJx4a65c yJx4a65c_elementData_915e3 wsJx4a65c_elementData_915e3) := goodIn_app (goodIn_of _ (by decide +kernel)) ggJx4a65c_get_915e3_Jx4a65c_elementData_915e3
theorem dJx4a65c_get_915e3_0 : decode cJx4a65c_get_915e3 0 = .ok (.iload_n 1, 1) := by decide +kernel
theorem dJx4a65c_get_915e3_1 : decode cJx4a65c_get_915e3 1 = .ok (.aload_n 0, 1) := by decide +kernel
theorem dJx4a65c_get_915e3_2 : decode cJx4a65c_get_915e3 2 = .ok (.getfield 48, 3) := by decide +kernel
theorem dJx4a65c_get_915e3_5 : decode cJx4a65c_get_915e3 5 = .ok (.invokestatic 118, 3) := by decide +kernel
theorem dJx4a65c_get_915e3_8 : decode cJx4a65c_get_915e3 8 = .ok (.pop, 1) := by decide +kernel
theorem dJx4a65c_get_915e3_9 : decode cJx4a65c_get_915e3 9 = .ok (.aload_n 0, 1) := by decide +kernel
theorem dJx4a65c_get_915e3_10 : decode cJx4a65c_get_915e3 10 = .ok (.iload_n 1, 1) := by decide +kernel
theorem dJx4a65c_get_915e3_11 : decode cJx4a65c_get_915e3 11 = .ok (.invokevirtual 123, 3) := by decide +kernel
theorem dJx4a65c_get_915e3_14 : decode cJx4a65c_get_915e3 14 = .ok (.areturn, 1) := by decide +kernel
set_option maxRecDepth 20000 in
theorem ggJx4a65c_add_72be8_Jx4a65c_grow_d5877 : GoodIn wsJx4a65c_add_72be8 wsJx4a65c_grow_d5877 := goodIn_r _ [6, 1, 7, 8, 9, 5, 10, 11, 12, 13, 14, 15, 16, 17, 18, 19, 20, 21, 22, 23, 24, 25, 26, 27, 28, 29, 30, 31, 32, 33, 34, 35, 36, 37, 38, 39, 40, 41, 42, 43, 44, 45, 46, 47, 48, 49] (by decide +kernel) (by decide +kernel)
set_option maxRecDepth 20000 in
theorem gJx4a65c_add_72be8_Jx4a65c_grow_d5877 : GoodIn wsJx4a65c_add_72be8 (wsV RJx4a65c 129 RJx4a65c yJx4a65c_grow_d5877 wsJx4a65c_grow_d5877) := goodIn_app (goodIn_of _ (by decide +kernel)) ggJx4a65c_add_72be8_Jx4a65c_grow_d5877
theorem dJx4a65c_add_72be8_0 : decode cJx4a65c_add_72be8 0 = .ok (.iload_n 3, 1) := by decide +kernel
theorem dJx4a65c_add_72be8_1 : decode cJx4a65c_add_72be8 1 = .ok (.aload_n 2, 1) := by decide +kernel
theorem dJx4a65c_add_72be8_2 : decode cJx4a65c_add_72be8 2 = .ok (.arraylength, 1) := by decide +kernel
theorem dJx4a65c_add_72be8_3 : decode cJx4a65c_add_72be8 3 = .ok (.if_icmp .ne 8, 3) := by decide +kernel
theorem dJx4a65c_add_72be8_6 : decode cJx4a65c_add_72be8 6 = .ok (.aload_n 0, 1) := by decide +kernel
theorem dJx4a65c_add_72be8_7 : decode cJx4a65c_add_72be8 7 = .ok (.invokevirtual 129, 3) := by decide +kernel
theorem dJx4a65c_add_72be8_10 : decode cJx4a65c_add_72be8 10 = .ok (.astore_n 2, 1) := by decide +kernel
theorem dJx4a65c_add_72be8_11 : decode cJx4a65c_add_72be8 11 = .ok (.aload_n 2, 1) := by decide +kernel
theorem dJx4a65c_add_72be8_12 : decode cJx4a65c_add_72be8 12 = .ok (.iload_n 3, 1) := by decide +kernel
theorem dJx4a65c_add_72be8_13 : decode cJx4a65c_add_72be8 13 = .ok (.aload_n 1, 1) := by decide +kernel
theorem dJx4a65c_add_72be8_14 : decode cJx4a65c_add_72be8 14 = .ok (.aastore, 1) := by decide +kernel
theorem dJx4a65c_add_72be8_15 : decode cJx4a65c_add_72be8 15 = .ok (.aload_n 0, 1) := by decide +kernel
theorem dJx4a65c_add_72be8_16 : decode cJx4a65c_add_72be8 16 = .ok (.iload_n 3, 1) := by decide +kernel
theorem dJx4a65c_add_72be8_17 : decode cJx4a65c_add_72be8 17 = .ok (.iconst 1, 1) := by decide +kernel
theorem dJx4a65c_add_72be8_18 : decode cJx4a65c_add_72be8 18 = .ok (.iadd, 1) := by decide +kernel
theorem dJx4a65c_add_72be8_19 : decode cJx4a65c_add_72be8 19 = .ok (.putfield 48, 3) := by decide +kernel
theorem dJx4a65c_add_72be8_22 : decode cJx4a65c_add_72be8 22 = .ok (.return_, 1) := by decide +kernel
set_option maxRecDepth 20000 in
theorem ggJx4a65c_add_9ea2d_Jx4a65c_add_72be8 : GoodIn wsJx4a65c_add_9ea2d wsJx4a65c_add_72be8 := goodIn_r _ [9, 4, 10, 11, 12, 8, 13, 14, 15, 16, 17, 3, 18, 19, 20, 21, 22, 23, 24, 25, 26, 27, 28, 29, 30, 31, 32, 33, 34, 35, 36, 37, 38, 39, 40, 41, 42, 43, 44, 45, 46, 47, 48, 49, 50, 51, 52, 53, 54, 55] (by decide +kernel) (by decide +kernel)
set_option maxRecDepth 20000 in
theorem gJx4a65c_add_9ea2d_Jx4a65c_add_72be8 : GoodIn wsJx4a65c_add_9ea2d (wsV RJx4a65c 131 RJx4a65c yJx4a65c_add_72be8 wsJx4a65c_add_72be8) := goodIn_app (goodIn_of _ (by decide +kernel)) ggJx4a65c_add_9ea2d_Jx4a65c_add_72be8
theorem dJx4a65c_add_9ea2d_0 : decode cJx4a65c_add_9ea2d 0 = .ok (.aload_n 0, 1) := by decide +kernel
theorem dJx4a65c_add_9ea2d_1 : decode cJx4a65c_add_9ea2d 1 = .ok (.dup, 1) := by decide +kernel
theorem dJx4a65c_add_9ea2d_2 : decode cJx4a65c_add_9ea2d 2 = .ok (.getfield 63, 3) := by decide +kernel
theorem dJx4a65c_add_9ea2d_5 : decode cJx4a65c_add_9ea2d 5 = .ok (.iconst 1, 1) := by decide +kernel
theorem dJx4a65c_add_9ea2d_6 : decode cJx4a65c_add_9ea2d 6 = .ok (.iadd, 1) := by decide +kernel
theorem dJx4a65c_add_9ea2d_7 : decode cJx4a65c_add_9ea2d 7 = .ok (.putfield 63, 3) := by decide +kernel
theorem dJx4a65c_add_9ea2d_10 : decode cJx4a65c_add_9ea2d 10 = .ok (.aload_n 0, 1) := by decide +kernel
theorem dJx4a65c_add_9ea2d_11 : decode cJx4a65c_add_9ea2d 11 = .ok (.aload_n 1, 1) := by decide +kernel
theorem dJx4a65c_add_9ea2d_12 : decode cJx4a65c_add_9ea2d 12 = .ok (.aload_n 0, 1) := by decide +kernel
theorem dJx4a65c_add_9ea2d_13 : decode cJx4a65c_add_9ea2d 13 = .ok (.getfield 9, 3) := by decide +kernel
theorem dJx4a65c_add_9ea2d_16 : decode cJx4a65c_add_9ea2d 16 = .ok (.aload_n 0, 1) := by decide +kernel
theorem dJx4a65c_add_9ea2d_17 : decode cJx4a65c_add_9ea2d 17 = .ok (.getfield 48, 3) := by decide +kernel
theorem dJx4a65c_add_9ea2d_20 : decode cJx4a65c_add_9ea2d 20 = .ok (.invokevirtual 131, 3) := by decide +kernel
theorem dJx4a65c_add_9ea2d_23 : decode cJx4a65c_add_9ea2d 23 = .ok (.iconst 1, 1) := by decide +kernel
theorem dJx4a65c_add_9ea2d_24 : decode cJx4a65c_add_9ea2d 24 = .ok (.ireturn, 1) := by decide +kernel
set_option maxRecDepth 20000 in
theorem ggJ7_copyOf_1904c_J7_copyOf_6403c : GoodIn wsJ7_copyOf_1904c wsJ7_copyOf_6403c := goodIn_r _ [8, 9, 10, 11, 12, 13, 14, 15, 16, 17, 18] (by decide +kernel) (by decide +kernel)
set_option maxRecDepth 20000 in
theorem gJ7_copyOf_1904c_J7_copyOf_6403c : GoodIn wsJ7_copyOf_1904c (va_wsS RJ7 300 yJ7_copyOf_6403c wsJ7_copyOf_6403c) := goodIn_app (goodIn_of _ (by decide +kernel)) ggJ7_copyOf_1904c_J7_copyOf_6403c
theorem dJ7_copyOf_1904c_0 : decode cJ7_copyOf_1904c 0 = .ok (.aload_n 0, 1) := by decide +kernel
theorem dJ7_copyOf_1904c_1 : decode cJ7_copyOf_1904c 1 = .ok (.iload_n 1, 1) := by decide +kernel
theorem dJ7_copyOf_1904c_2 : decode cJ7_copyOf_1904c 2 = .ok (.aload_n 0, 1) := by decide +kernel
theorem dJ7_copyOf_1904c_3 : decode cJ7_copyOf_1904c 3 = .ok (.invokevirtual 86, 3) := by decide +kernel
theorem dJ7_copyOf_1904c_6 : decode cJ7_copyOf_1904c 6 = .ok (.invokestatic 300, 3) := by decide +kernel
theorem dJ7_copyOf_1904c_9 : decode cJ7_copyOf_1904c 9 = .ok (.areturn, 1) := by decide +kernel
theorem dJ7_copyOf_6403c_0 : decode cJ7_copyOf_6403c 0 = .ok (.aload_n 2, 1) := by decide +kernel
theorem dJ7_copyOf_6403c_1 : decode cJ7_copyOf_6403c 1 = .ok (.ldc 110, 2) := by decide +kernel
theorem dJ7_copyOf_6403c_3 : decode cJ7_copyOf_6403c 3 = .ok (.if_acmp .ne 10, 3) := by decide +kernel
theorem dJ7_copyOf_6403c_6 : decode cJ7_copyOf_6403c 6 = .ok (.iload_n 1, 1) := by decide +kernel
theorem dJ7_copyOf_6403c_7 : decode cJ7_copyOf_6403c 7 = .ok (.anewarray 2, 3) := by decide +kernel
theorem dJ7_copyOf_6403c_10 : decode cJ7_copyOf_6403c 10 = .ok (.goto 14, 3) := by decide +kernel
theorem dJ7_copyOf_6403c_13 : decode cJ7_copyOf_6403c 13 = .ok (.aload_n 2, 1) := by decide +kernel
theorem dJ7_copyOf_6403c_14 : decode cJ7_copyOf_6403c 14 = .ok (.invokevirtual 90, 3) := by decide +kernel
theorem dJ7_copyOf_6403c_17 : decode cJ7_copyOf_6403c 17 = .ok (.iload_n 1, 1) := by decide +kernel
theorem dJ7_copyOf_6403c_18 : decode cJ7_copyOf_6403c 18 = .ok (.invokestatic 95, 3) := by decide +kernel
theorem dJ7_copyOf_6403c_21 : decode cJ7_copyOf_6403c 21 = .ok (.checkcast 110, 3) := by decide +kernel
theorem dJ7_copyOf_6403c_24 : decode cJ7_copyOf_6403c 24 = .ok (.astore_n 3, 1) := by decide +kernel
theorem dJ7_copyOf_6403c_25 : decode cJ7_copyOf_6403c 25 = .ok (.aload_n 0, 1) := by decide +kernel
theorem dJ7_copyOf_6403c_26 : decode cJ7_copyOf_6403c 26 = .ok (.iconst 0, 1) := by decide +kernel
theorem dJ7_copyOf_6403c_27 : decode cJ7_copyOf_6403c 27 = .ok (.aload_n 3, 1) := by decide +kernel
theorem dJ7_copyOf_6403c_28 : decode cJ7_copyOf_6403c 28 = .ok (.iconst 0, 1) := by decide +kernel
theorem dJ7_copyOf_6403c_29 : decode cJ7_copyOf_6403c 29 = .ok (.aload_n 0, 1) := by decide +kernel
theorem dJ7_copyOf_6403c_30 : decode cJ7_copyOf_6403c 30 = .ok (.arraylength, 1) := by decide +kernel
theorem dJ7_copyOf_6403c_31 : decode cJ7_copyOf_6403c 31 = .ok (.iload_n 1, 1) := by decide +kernel
theorem dJ7_copyOf_6403c_32 : decode cJ7_copyOf_6403c 32 = .ok (.invokestatic 304, 3) := by decide +kernel
theorem dJ7_copyOf_6403c_35 : decode cJ7_copyOf_6403c 35 = .ok (.invokestatic 150, 3) := by decide +kernel
theorem dJ7_copyOf_6403c_38 : decode cJ7_copyOf_6403c 38 = .ok (.aload_n 3, 1) := by decide +kernel
theorem dJ7_copyOf_6403c_39 : decode cJ7_copyOf_6403c 39 = .ok (.areturn, 1) := by decide +kernel
set_option maxRecDepth 20000 in
theorem ggJ15_checkIndex_7cf53_J3_checkIndex_8e157 : GoodIn wsJ15_checkIndex_7cf53 wsJ3_checkIndex_8e157 := goodIn_r _ [4] (by decide +kernel) (by decide +kernel)
set_option maxRecDepth 20000 in
theorem gJ15_checkIndex_7cf53_J3_checkIndex_8e157 : GoodIn wsJ15_checkIndex_7cf53 (va_wsS RJ15 105 yJ3_checkIndex_8e157 wsJ3_checkIndex_8e157) := goodIn_app (goodIn_of _ (by decide +kernel)) ggJ15_checkIndex_7cf53_J3_checkIndex_8e157
theorem dJ15_checkIndex_7cf53_0 : decode cJ15_checkIndex_7cf53 0 = .ok (.iload_n 0, 1) := by decide +kernel
theorem dJ15_checkIndex_7cf53_1 : decode cJ15_checkIndex_7cf53 1 = .ok (.iload_n 1, 1) := by decide +kernel
theorem dJ15_checkIndex_7cf53_2 : decode cJ15_checkIndex_7cf53 2 = .ok (.aconst_null, 1) := by decide +kernel
theorem dJ15_checkIndex_7cf53_3 : decode cJ15_checkIndex_7cf53 3 = .ok (.invokestatic 105, 3) := by decide +kernel
theorem dJ15_checkIndex_7cf53_6 : decode cJ15_checkIndex_7cf53 6 = .ok (.ireturn, 1) := by decide +kernel
set_option maxRecDepth 20000 in
theorem ggJ8_newLength_cabcc_J8_hugeLength_7cf53 : GoodIn wsJ8_newLength_cabcc wsJ8_hugeLength_7cf53 := goodIn_r _ [9, 5] (by decide +kernel) (by decide +kernel)
set_option maxRecDepth 20000 in
theorem gJ8_newLength_cabcc_J8_hugeLength_7cf53 : GoodIn wsJ8_newLength_cabcc (va_wsS RJ8 201 yJ8_hugeLength_7cf53 wsJ8_hugeLength_7cf53) := goodIn_app (goodIn_of _ (by decide +kernel)) ggJ8_newLength_cabcc_J8_hugeLength_7cf53
theorem dJ8_newLength_cabcc_0 : decode cJ8_newLength_cabcc 0 = .ok (.iload_n 0, 1) := by decide +kernel
theorem dJ8_newLength_cabcc_1 : decode cJ8_newLength_cabcc 1 = .ok (.iload_n 1, 1) := by decide +kernel
theorem dJ8_newLength_cabcc_2 : decode cJ8_newLength_cabcc 2 = .ok (.iload_n 2, 1) := by decide +kernel
theorem dJ8_newLength_cabcc_3 : decode cJ8_newLength_cabcc 3 = .ok (.invokestatic 194, 3) := by decide +kernel
theorem dJ8_newLength_cabcc_6 : decode cJ8_newLength_cabcc 6 = .ok (.iadd, 1) := by decide +kernel
theorem dJ8_newLength_cabcc_7 : decode cJ8_newLength_cabcc 7 = .ok (.istore_n 3, 1) := by decide +kernel
theorem dJ8_newLength_cabcc_8 : decode cJ8_newLength_cabcc 8 = .ok (.iconst 0, 1) := by decide +kernel
theorem dJ8_newLength_cabcc_9 : decode cJ8_newLength_cabcc 9 = .ok (.iload_n 3, 1) := by decide +kernel
theorem dJ8_newLength_cabcc_10 : decode cJ8_newLength_cabcc 10 = .ok (.if_icmp .ge 11, 3) := by decide +kernel
theorem dJ8_newLength_cabcc_13 : decode cJ8_newLength_cabcc 13 = .ok (.iload_n 3, 1) := by decide +kernel
theorem dJ8_newLength_cabcc_14 : decode cJ8_newLength_cabcc 14 = .ok (.ldc 200, 2) := by decide +kernel
theorem dJ8_newLength_cabcc_16 : decode cJ8_newLength_cabcc 16 = .ok (.if_icmp .gt 5, 3) := by decide +kernel
theorem dJ8_newLength_cabcc_19 : decode cJ8_newLength_cabcc 19 = .ok (.iload_n 3, 1) := by decide +kernel
theorem dJ8_newLength_cabcc_20 : decode cJ8_newLength_cabcc 20 = .ok (.ireturn, 1) := by decide +kernel
theorem dJ8_newLength_cabcc_21 : decode cJ8_newLength_cabcc 21 = .ok (.iload_n 0, 1) := by decide +kernel
theorem dJ8_newLength_cabcc_22 : decode cJ8_newLength_cabcc 22 = .ok (.iload_n 1, 1) := by decide +kernel
theorem dJ8_newLength_cabcc_23 : decode cJ8_newLength_cabcc 23 = .ok (.invokestatic 201, 3) := by decide +kernel
theorem dJ8_newLength_cabcc_26 : decode cJ8_newLength_cabcc 26 = .ok (.ireturn, 1) := by decide +kernel
theorem dJ8_hugeLength_7cf53_0 : decode cJ8_hugeLength_7cf53 0 = .ok (.iload_n 0, 1) := by decide +kernel
theorem dJ8_hugeLength_7cf53_1 : decode cJ8_hugeLength_7cf53 1 = .ok (.iload_n 1, 1) := by decide +kernel
theorem dJ8_hugeLength_7cf53_2 : decode cJ8_hugeLength_7cf53 2 = .ok (.iadd, 1) := by decide +kernel
theorem dJ8_hugeLength_7cf53_3 : decode cJ8_hugeLength_7cf53 3 = .ok (.istore_n 2, 1) := by decide +kernel
theorem dJ8_hugeLength_7cf53_4 : decode cJ8_hugeLength_7cf53 4 = .ok (.iload_n 2, 1) := by decide +kernel
theorem dJ8_hugeLength_7cf53_5 : decode cJ8_hugeLength_7cf53 5 = .ok (.ifCond .ge 44, 3) := by decide +kernel
theorem dJ8_hugeLength_7cf53_8 : decode cJ8_hugeLength_7cf53 8 = .ok (.new 204, 3) := by decide +kernel
theorem dJ8_hugeLength_7cf53_11 : decode cJ8_hugeLength_7cf53 11 = .ok (.dup, 1) := by decide +kernel
theorem dJ8_hugeLength_7cf53_12 : decode cJ8_hugeLength_7cf53 12 = .ok (.new 89, 3) := by decide +kernel
theorem dJ8_hugeLength_7cf53_15 : decode cJ8_hugeLength_7cf53 15 = .ok (.dup, 1) := by decide +kernel
theorem dJ8_hugeLength_7cf53_16 : decode cJ8_hugeLength_7cf53 16 = .ok (.invokespecial 91, 3) := by decide +kernel
theorem dJ8_hugeLength_7cf53_19 : decode cJ8_hugeLength_7cf53 19 = .ok (.ldc 206, 2) := by decide +kernel
theorem dJ8_hugeLength_7cf53_21 : decode cJ8_hugeLength_7cf53 21 = .ok (.invokevirtual 94, 3) := by decide +kernel
theorem dJ8_hugeLength_7cf53_24 : decode cJ8_hugeLength_7cf53 24 = .ok (.iload_n 0, 1) := by decide +kernel
theorem dJ8_hugeLength_7cf53_25 : decode cJ8_hugeLength_7cf53 25 = .ok (.invokevirtual 98, 3) := by decide +kernel
theorem dJ8_hugeLength_7cf53_28 : decode cJ8_hugeLength_7cf53 28 = .ok (.ldc 208, 2) := by decide +kernel
theorem dJ8_hugeLength_7cf53_30 : decode cJ8_hugeLength_7cf53 30 = .ok (.invokevirtual 94, 3) := by decide +kernel
theorem dJ8_hugeLength_7cf53_33 : decode cJ8_hugeLength_7cf53 33 = .ok (.iload_n 1, 1) := by decide +kernel
theorem dJ8_hugeLength_7cf53_34 : decode cJ8_hugeLength_7cf53 34 = .ok (.invokevirtual 98, 3) := by decide +kernel
theorem dJ8_hugeLength_7cf53_37 : decode cJ8_hugeLength_7cf53 37 = .ok (.ldc 210, 2) := by decide +kernel
theorem dJ8_hugeLength_7cf53_39 : decode cJ8_hugeLength_7cf53 39 = .ok (.invokevirtual 94, 3) := by decide +kernel
theorem dJ8_hugeLength_7cf53_42 : decode cJ8_hugeLength_7cf53 42 = .ok (.invokevirtual 101, 3) := by decide +kernel
theorem dJ8_hugeLength_7cf53_45 : decode cJ8_hugeLength_7cf53 45 = .ok (.invokespecial 212, 3) := by decide +kernel
theorem dJ8_hugeLength_7cf53_48 : decode cJ8_hugeLength_7cf53 48 = .ok (.athrow, 1) := by decide +kernel
theorem dJ8_hugeLength_7cf53_49 : decode cJ8_hugeLength_7cf53 49 = .ok (.iload_n 2, 1) := by decide +kernel
theorem dJ8_hugeLength_7cf53_50 : decode cJ8_hugeLength_7cf53 50 = .ok (.ldc 200, 2) := by decide +kernel
theorem dJ8_hugeLength_7cf53_52 : decode cJ8_hugeLength_7cf53 52 = .ok (.if_icmp .gt 6, 3) := by decide +kernel
theorem dJ8_hugeLength_7cf53_55 : decode cJ8_hugeLength_7cf53 55 = .ok (.ldc 200, 2) := by decide +kernel
theorem dJ8_hugeLength_7cf53_57 : decode cJ8_hugeLength_7cf53 57 = .ok (.ireturn, 1) := by decide +kernel
theorem dJ8_hugeLength_7cf53_58 : decode cJ8_hugeLength_7cf53 58 = .ok (.iload_n 2, 1) := by decide +kernel
theorem dJ8_hugeLength_7cf53_59 : decode cJ8_hugeLength_7cf53 59 = .ok (.ireturn, 1) := by decide +kernel
theorem dJ3_checkIndex_8e157_0 : decode cJ3_checkIndex_8e157 0 = .ok (.iload_n 0, 1) := by decide +kernel
theorem dJ3_checkIndex_8e157_1 : decode cJ3_checkIndex_8e157 1 = .ok (.ifCond .lt 8, 3) := by decide +kernel
theorem dJ3_checkIndex_8e157_4 : decode cJ3_checkIndex_8e157 4 = .ok (.iload_n 0, 1) := by decide +kernel
theorem dJ3_checkIndex_8e157_5 : decode cJ3_checkIndex_8e157 5 = .ok (.iload_n 1, 1) := by decide +kernel
theorem dJ3_checkIndex_8e157_6 : decode cJ3_checkIndex_8e157 6 = .ok (.if_icmp .lt 10, 3) := by decide +kernel
theorem dJ3_checkIndex_8e157_9 : decode cJ3_checkIndex_8e157 9 = .ok (.aload_n 2, 1) := by decide +kernel
theorem dJ3_checkIndex_8e157_10 : decode cJ3_checkIndex_8e157 10 = .ok (.iload_n 0, 1) := by decide +kernel
theorem dJ3_checkIndex_8e157_11 : decode cJ3_checkIndex_8e157 11 = .ok (.iload_n 1, 1) := by decide +kernel
theorem dJ3_checkIndex_8e157_12 : decode cJ3_checkIndex_8e157 12 = .ok (.invokestatic 95, 3) := by decide +kernel
theorem dJ3_checkIndex_8e157_15 : decode cJ3_checkIndex_8e157 15 = .ok (.athrow, 1) := by decide +kernel
theorem dJ3_checkIndex_8e157_16 : decode cJ3_checkIndex_8e157 16 = .ok (.iload_n 0, 1) := by decide +kernel
theorem dJ3_checkIndex_8e157_17 : decode cJ3_checkIndex_8e157 17 = .ok (.ireturn, 1) := by decide +kernel
end
section
theorem dX6_init_0 : decode cX6_init 0 = .ok (.aload_n 0, 1) := by decide +kernel
theorem dX6_init_1 : decode cX6_init 1 = .ok (.invokespecial 1, 3) := by decide +kernel
theorem dX6_init_4 : decode cX6_init 4 = .ok (.aload_n 0, 1) := by decide +kernel
theorem dX6_init_5 : decode cX6_init 5 = .ok (.bipush 24, 2) := by decide +kernel
theorem dX6_init_7 : decode cX6_init 7 = .ok (.newarray .int, 2) := by decide +kernel
theorem dX6_init_9 : decode cX6_init 9 = .ok (.putfield 9, 3) := by decide +kernel
theorem dX6_init_12 : decode cX6_init 12 = .ok (.aload_n 0, 1) := by decide +kernel
theorem dX6_init_13 : decode cX6_init 13 = .ok (.bipush 24, 2) := by decide +kernel
theorem dX6_init_15 : decode cX6_init 15 = .ok (.newarray .long, 2) := by decide +kernel
theorem dX6_init_17 : decode cX6_init 17 = .ok (.putfield 13, 3) := by decide +kernel
theorem dX6_init_20 : decode cX6_init 20 = .ok (.aload_n 0, 1) := by decide +kernel
theorem dX6_init_21 : decode cX6_init 21 = .ok (.iconst 4, 1) := by decide +kernel
theorem dX6_init_22 : decode cX6_init 22 = .ok (.anewarray 17, 3) := by decide +kernel
theorem dX6_init_25 : decode cX6_init 25 = .ok (.putfield 19, 3) := by decide +kernel
theorem dX6_init_28 : decode cX6_init 28 = .ok (.aload_n 0, 1) := by decide +kernel
theorem dX6_init_29 : decode cX6_init 29 = .ok (.bipush 9, 2) := by decide +kernel
theorem dX6_init_31 : decode cX6_init 31 = .ok (.anewarray 23, 3) := by decide +kernel
theorem dX6_init_34 : decode cX6_init 34 = .ok (.putfield 25, 3) := by decide +kernel
theorem dX6_init_37 : decode cX6_init 37 = .ok (.aload_n 0, 1) := by decide +kernel
theorem dX6_init_38 : decode cX6_init 38 = .ok (.bipush 15, 2) := by decide +kernel
theorem dX6_init_40 : decode cX6_init 40 = .ok (.anewarray 29, 3) := by decide +kernel
theorem dX6_init_43 : decode cX6_init 43 = .ok (.putfield 31, 3) := by decide +kernel
theorem dX6_init_46 : decode cX6_init 46 = .ok (.aload_n 0, 1) := by decide +kernel
theorem dX6_init_47 : decode cX6_init 47 = .ok (.bipush 15, 2) := by decide +kernel
theorem dX6_init_49 : decode cX6_init 49 = .ok (.anewarray 29, 3) := by decide +kernel
theorem dX6_init_52 : decode cX6_init 52 = .ok (.putfield 35, 3) := by decide +kernel
theorem dX6_init_55 : decode cX6_init 55 = .ok (.aload_n 0, 1) := by decide +kernel
theorem dX6_init_56 : decode cX6_init 56 = .ok (.iconst 0, 1) := by decide +kernel
theorem dX6_init_57 : decode cX6_init 57 = .ok (.putfield 38, 3) := by decide +kernel
theorem dX6_init_60 : decode cX6_init 60 = .ok (.return_, 1) := by decide +kernel
set_option maxRecDepth 20000 in
theorem ggX6_row_X6_within : GoodIn wsX6_row wsX6_within := goodIn_r _ [4] (by decide +kernel) (by decide +kernel)
set_option maxRecDepth 20000 in
theorem gX6_row_X6_within : GoodIn wsX6_row (va_wsS RX6 42 yX6_within wsX6_within) := goodIn_app (goodIn_of _ (by decide +kernel)) ggX6_row_X6_within
set_option maxRecDepth 20000 in
theorem ggX6_row_X3_mask : GoodIn wsX6_row wsX3_mask := goodIn_r _ [8] (by decide +kernel) (by decide +kernel)
set_option maxRecDepth 20000 in
theorem gX6_row_X3_mask : GoodIn wsX6_row (va_wsS RX6 46 yX3_mask wsX3_mask) := goodIn_app (goodIn_of _ (by decide +kernel)) ggX6_row_X3_mask
set_option maxRecDepth 20000 in
theorem ggX6_row_X6_fits : GoodIn wsX6_row wsX6_fits := goodIn_r _ [12, 13, 20, 21, 22, 23, 24, 25, 26] (by decide +kernel) (by decide +kernel)
set_option maxRecDepth 20000 in
theorem gX6_row_X6_fits : GoodIn wsX6_row (wsV RX6 52 RX6 yX6_fits wsX6_fits) := goodIn_app (goodIn_of _ (by decide +kernel)) ggX6_row_X6_fits
set_option maxRecDepth 20000 in
theorem ggX6_row_X6_added : GoodIn wsX6_row wsX6_added := goodIn_r _ [17, 13, 18, 19, 20, 21, 22, 23, 24, 25, 26] (by decide +kernel) (by decide +kernel)
set_option maxRecDepth 20000 in
theorem gX6_row_X6_added : GoodIn wsX6_row (wsV RX6 56 RX6 yX6_added wsX6_added) := goodIn_app (goodIn_of _ (by decide +kernel)) ggX6_row_X6_added
theorem dX6_row_0 : decode cX6_row 0 = .ok (.iload_n 1, 1) := by decide +kernel
theorem dX6_row_1 : decode cX6_row 1 = .ok (.iconst 1, 1) := by decide +kernel
theorem dX6_row_2 : decode cX6_row 2 = .ok (.bipush 32, 2) := by decide +kernel
theorem dX6_row_4 : decode cX6_row 4 = .ok (.invokestatic 42, 3) := by decide +kernel
theorem dX6_row_7 : decode cX6_row 7 = .ok (.ifCond .eq 18, 3) := by decide +kernel
theorem dX6_row_10 : decode cX6_row 10 = .ok (.lload_n 2, 1) := by decide +kernel
theorem dX6_row_11 : decode cX6_row 11 = .ok (.lconst 0, 1) := by decide +kernel
theorem dX6_row_12 : decode cX6_row 12 = .ok (.lcmp, 1) := by decide +kernel
theorem dX6_row_13 : decode cX6_row 13 = .ok (.ifCond .lt 12, 3) := by decide +kernel
theorem dX6_row_16 : decode cX6_row 16 = .ok (.lload_n 2, 1) := by decide +kernel
theorem dX6_row_17 : decode cX6_row 17 = .ok (.iload_n 1, 1) := by decide +kernel
theorem dX6_row_18 : decode cX6_row 18 = .ok (.invokestatic 46, 3) := by decide +kernel
theorem dX6_row_21 : decode cX6_row 21 = .ok (.lcmp, 1) := by decide +kernel
theorem dX6_row_22 : decode cX6_row 22 = .ok (.ifCond .le 5, 3) := by decide +kernel
theorem dX6_row_25 : decode cX6_row 25 = .ok (.iconst (-1), 1) := by decide +kernel
theorem dX6_row_26 : decode cX6_row 26 = .ok (.ireturn, 1) := by decide +kernel
theorem dX6_row_27 : decode cX6_row 27 = .ok (.aload_n 0, 1) := by decide +kernel
theorem dX6_row_28 : decode cX6_row 28 = .ok (.iload_n 1, 1) := by decide +kernel
theorem dX6_row_29 : decode cX6_row 29 = .ok (.iconst 1, 1) := by decide +kernel
theorem dX6_row_30 : decode cX6_row 30 = .ok (.invokevirtual 52, 3) := by decide +kernel
theorem dX6_row_33 : decode cX6_row 33 = .ok (.ifCond .eq 12, 3) := by decide +kernel
theorem dX6_row_36 : decode cX6_row 36 = .ok (.aload_n 0, 1) := by decide +kernel
theorem dX6_row_37 : decode cX6_row 37 = .ok (.iload_n 1, 1) := by decide +kernel
theorem dX6_row_38 : decode cX6_row 38 = .ok (.lload_n 2, 1) := by decide +kernel
theorem dX6_row_39 : decode cX6_row 39 = .ok (.invokevirtual 56, 3) := by decide +kernel
theorem dX6_row_42 : decode cX6_row 42 = .ok (.goto 5, 3) := by decide +kernel
theorem dX6_row_45 : decode cX6_row 45 = .ok (.bipush (-3), 2) := by decide +kernel
theorem dX6_row_47 : decode cX6_row 47 = .ok (.ireturn, 1) := by decide +kernel
set_option maxRecDepth 20000 in
theorem ggX6_sheet_X6_isSheet : GoodIn wsX6_sheet wsX6_isSheet := goodIn_r _ [8, 9, 10, 7, 11] (by decide +kernel) (by decide +kernel)
set_option maxRecDepth 20000 in
theorem gX6_sheet_X6_isSheet : GoodIn wsX6_sheet (va_wsS RX6 60 yX6_isSheet wsX6_isSheet) := goodIn_app (goodIn_of _ (by decide +kernel)) ggX6_sheet_X6_isSheet
set_option maxRecDepth 20000 in
theorem ggX6_sheet_X6_isLane : GoodIn wsX6_sheet wsX6_isLane := goodIn_r _ [14, 9, 10, 7, 11] (by decide +kernel) (by decide +kernel)
set_option maxRecDepth 20000 in
theorem gX6_sheet_X6_isLane : GoodIn wsX6_sheet (va_wsS RX6 64 yX6_isLane wsX6_isLane) := goodIn_app (goodIn_of _ (by decide +kernel)) ggX6_sheet_X6_isLane
set_option maxRecDepth 20000 in
theorem ggX6_sheet_X2_init : GoodIn wsX6_sheet wsX2_init := goodIn_r _ [17, 18, 19, 20, 21, 22, 23, 24, 25, 26, 27, 35, 36] (by decide +kernel) (by decide +kernel)
set_option maxRecDepth 20000 in
theorem gX6_sheet_X2_init : GoodIn wsX6_sheet (wsX2_init) := ggX6_sheet_X2_init
theorem dX6_sheet_0 : decode cX6_sheet 0 = .ok (.iload_n 1, 1) := by decide +kernel
theorem dX6_sheet_1 : decode cX6_sheet 1 = .ok (.invokestatic 60, 3) := by decide +kernel
theorem dX6_sheet_4 : decode cX6_sheet 4 = .ok (.ifCond .eq 16, 3) := by decide +kernel
theorem dX6_sheet_7 : decode cX6_sheet 7 = .ok (.iload_n 2, 1) := by decide +kernel
theorem dX6_sheet_8 : decode cX6_sheet 8 = .ok (.invokestatic 64, 3) := by decide +kernel
theorem dX6_sheet_11 : decode cX6_sheet 11 = .ok (.ifCond .eq 9, 3) := by decide +kernel
theorem dX6_sheet_14 : decode cX6_sheet 14 = .ok (.iload_n 3, 1) := by decide +kernel
theorem dX6_sheet_15 : decode cX6_sheet 15 = .ok (.bipush 64, 2) := by decide +kernel
theorem dX6_sheet_17 : decode cX6_sheet 17 = .ok (.if_icmp .le 5, 3) := by decide +kernel
theorem dX6_sheet_20 : decode cX6_sheet 20 = .ok (.iconst (-1), 1) := by decide +kernel
theorem dX6_sheet_21 : decode cX6_sheet 21 = .ok (.ireturn, 1) := by decide +kernel
theorem dX6_sheet_22 : decode cX6_sheet 22 = .ok (.iload_n 3, 1) := by decide +kernel
theorem dX6_sheet_23 : decode cX6_sheet 23 = .ok (.ifCond .ge 6, 3) := by decide +kernel
theorem dX6_sheet_26 : decode cX6_sheet 26 = .ok (.bipush (-14), 2) := by decide +kernel
theorem dX6_sheet_28 : decode cX6_sheet 28 = .ok (.ireturn, 1) := by decide +kernel
theorem dX6_sheet_29 : decode cX6_sheet 29 = .ok (.aload_n 0, 1) := by decide +kernel
theorem dX6_sheet_30 : decode cX6_sheet 30 = .ok (.getfield 19, 3) := by decide +kernel
theorem dX6_sheet_33 : decode cX6_sheet 33 = .ok (.iload_n 1, 1) := by decide +kernel
theorem dX6_sheet_34 : decode cX6_sheet 34 = .ok (.new 17, 3) := by decide +kernel
theorem dX6_sheet_37 : decode cX6_sheet 37 = .ok (.dup, 1) := by decide +kernel
theorem dX6_sheet_38 : decode cX6_sheet 38 = .ok (.iload_n 2, 1) := by decide +kernel
theorem dX6_sheet_39 : decode cX6_sheet 39 = .ok (.iload_n 3, 1) := by decide +kernel
theorem dX6_sheet_40 : decode cX6_sheet 40 = .ok (.invokespecial 67, 3) := by decide +kernel
theorem dX6_sheet_43 : decode cX6_sheet 43 = .ok (.aastore, 1) := by decide +kernel
theorem dX6_sheet_44 : decode cX6_sheet 44 = .ok (.iconst 1, 1) := by decide +kernel
theorem dX6_sheet_45 : decode cX6_sheet 45 = .ok (.ireturn, 1) := by decide +kernel
set_option maxRecDepth 20000 in
theorem ggX6_lay_X6_isSheet : GoodIn wsX6_lay wsX6_isSheet := goodIn_r _ [5, 6, 7, 4, 8] (by decide +kernel) (by decide +kernel)
set_option maxRecDepth 20000 in
theorem gX6_lay_X6_isSheet : GoodIn wsX6_lay (va_wsS RX6 60 yX6_isSheet wsX6_isSheet) := goodIn_app (goodIn_of _ (by decide +kernel)) ggX6_lay_X6_isSheet
set_option maxRecDepth 20000 in
theorem ggX6_lay_X2_has : GoodIn wsX6_lay wsX2_has := goodIn_r _ [13, 14, 32, 33] (by decide +kernel) (by decide +kernel)
set_option maxRecDepth 20000 in
theorem gX6_lay_X2_has : GoodIn wsX6_lay (wsV RX6 70 RX2 yX2_has wsX2_has) := goodIn_app (goodIn_of _ (by decide +kernel)) ggX6_lay_X2_has
set_option maxRecDepth 20000 in
theorem ggX6_lay_X2_write : GoodIn wsX6_lay wsX2_write := goodIn_r _ [18, 14, 19, 10, 11, 12, 13, 20, 21, 22, 23, 24, 32, 33] (by decide +kernel) (by decide +kernel)
set_option maxRecDepth 20000 in
theorem gX6_lay_X2_write : GoodIn wsX6_lay (wsV RX6 73 RX2 yX2_write wsX2_write) := goodIn_app (goodIn_of _ (by decide +kernel)) ggX6_lay_X2_write
theorem dX6_lay_0 : decode cX6_lay 0 = .ok (.iload_n 1, 1) := by decide +kernel
theorem dX6_lay_1 : decode cX6_lay 1 = .ok (.invokestatic 60, 3) := by decide +kernel
theorem dX6_lay_4 : decode cX6_lay 4 = .ok (.ifCond .ne 5, 3) := by decide +kernel
theorem dX6_lay_7 : decode cX6_lay 7 = .ok (.iconst (-1), 1) := by decide +kernel
theorem dX6_lay_8 : decode cX6_lay 8 = .ok (.ireturn, 1) := by decide +kernel
theorem dX6_lay_9 : decode cX6_lay 9 = .ok (.aload_n 0, 1) := by decide +kernel
theorem dX6_lay_10 : decode cX6_lay 10 = .ok (.getfield 19, 3) := by decide +kernel
theorem dX6_lay_13 : decode cX6_lay 13 = .ok (.iload_n 1, 1) := by decide +kernel
theorem dX6_lay_14 : decode cX6_lay 14 = .ok (.aaload, 1) := by decide +kernel
theorem dX6_lay_15 : decode cX6_lay 15 = .ok (.astore 4, 2) := by decide +kernel
theorem dX6_lay_17 : decode cX6_lay 17 = .ok (.aload 4, 2) := by decide +kernel
theorem dX6_lay_19 : decode cX6_lay 19 = .ok (.ifnonnull 6, 3) := by decide +kernel
theorem dX6_lay_22 : decode cX6_lay 22 = .ok (.bipush (-11), 2) := by decide +kernel
theorem dX6_lay_24 : decode cX6_lay 24 = .ok (.ireturn, 1) := by decide +kernel
theorem dX6_lay_25 : decode cX6_lay 25 = .ok (.aload 4, 2) := by decide +kernel
theorem dX6_lay_27 : decode cX6_lay 27 = .ok (.iload_n 2, 1) := by decide +kernel
theorem dX6_lay_28 : decode cX6_lay 28 = .ok (.invokevirtual 70, 3) := by decide +kernel
theorem dX6_lay_31 : decode cX6_lay 31 = .ok (.ifCond .ne 6, 3) := by decide +kernel
theorem dX6_lay_34 : decode cX6_lay 34 = .ok (.bipush (-12), 2) := by decide +kernel
theorem dX6_lay_36 : decode cX6_lay 36 = .ok (.ireturn, 1) := by decide +kernel
theorem dX6_lay_37 : decode cX6_lay 37 = .ok (.aload 4, 2) := by decide +kernel
theorem dX6_lay_39 : decode cX6_lay 39 = .ok (.iload_n 2, 1) := by decide +kernel
theorem dX6_lay_40 : decode cX6_lay 40 = .ok (.iload_n 3, 1) := by decide +kernel
theorem dX6_lay_41 : decode cX6_lay 41 = .ok (.invokevirtual 73, 3) := by decide +kernel
theorem dX6_lay_44 : decode cX6_lay 44 = .ok (.iconst 1, 1) := by decide +kernel
theorem dX6_lay_45 : decode cX6_lay 45 = .ok (.ireturn, 1) := by decide +kernel
set_option maxRecDepth 20000 in
theorem ggX6_draw_X6_isSheet : GoodIn wsX6_draw wsX6_isSheet := goodIn_r _ [6, 7, 8, 5, 9] (by decide +kernel) (by decide +kernel)
set_option maxRecDepth 20000 in
theorem gX6_draw_X6_isSheet : GoodIn wsX6_draw (va_wsS RX6 60 yX6_isSheet wsX6_isSheet) := goodIn_app (goodIn_of _ (by decide +kernel)) ggX6_draw_X6_isSheet
set_option maxRecDepth 20000 in
theorem ggX6_draw_X6_isLane : GoodIn wsX6_draw wsX6_isLane := goodIn_r _ [12, 7, 8, 5, 9] (by decide +kernel) (by decide +kernel)
set_option maxRecDepth 20000 in
theorem gX6_draw_X6_isLane : GoodIn wsX6_draw (va_wsS RX6 64 yX6_isLane wsX6_isLane) := goodIn_app (goodIn_of _ (by decide +kernel)) ggX6_draw_X6_isLane
set_option maxRecDepth 20000 in
theorem ggX6_draw_X6_within : GoodIn wsX6_draw wsX6_within := goodIn_r _ [9] (by decide +kernel) (by decide +kernel)
set_option maxRecDepth 20000 in
theorem gX6_draw_X6_within : GoodIn wsX6_draw (va_wsS RX6 42 yX6_within wsX6_within) := goodIn_app (goodIn_of _ (by decide +kernel)) ggX6_draw_X6_within
set_option maxRecDepth 20000 in
theorem ggX6_draw_X2_has : GoodIn wsX6_draw wsX2_has := goodIn_r _ [17, 18, 42, 43] (by decide +kernel) (by decide +kernel)
set_option maxRecDepth 20000 in
theorem gX6_draw_X2_has : GoodIn wsX6_draw (wsV RX6 70 RX2 yX2_has wsX2_has) := goodIn_app (goodIn_of _ (by decide +kernel)) ggX6_draw_X2_has
set_option maxRecDepth 20000 in
theorem ggX6_draw_X2_read : GoodIn wsX6_draw wsX2_read := goodIn_r _ [22, 18, 23, 14, 15, 16, 17, 42, 43] (by decide +kernel) (by decide +kernel)
set_option maxRecDepth 20000 in
theorem gX6_draw_X2_read : GoodIn wsX6_draw (wsV RX6 79 RX2 yX2_read wsX2_read) := goodIn_app (goodIn_of _ (by decide +kernel)) ggX6_draw_X2_read
set_option maxRecDepth 20000 in
theorem ggX6_draw_X6_fits : GoodIn wsX6_draw wsX6_fits := goodIn_r _ [27, 28, 35, 36, 37, 38, 39, 40, 41] (by decide +kernel) (by decide +kernel)
set_option maxRecDepth 20000 in
theorem gX6_draw_X6_fits : GoodIn wsX6_draw (wsV RX6 52 RX6 yX6_fits wsX6_fits) := goodIn_app (goodIn_of _ (by decide +kernel)) ggX6_draw_X6_fits
set_option maxRecDepth 20000 in
theorem ggX6_draw_X6_added : GoodIn wsX6_draw wsX6_added := goodIn_r _ [32, 28, 33, 34, 35, 36, 37, 38, 39, 40, 41] (by decide +kernel) (by decide +kernel)
set_option maxRecDepth 20000 in
theorem gX6_draw_X6_added : GoodIn wsX6_draw (wsV RX6 56 RX6 yX6_added wsX6_added) := goodIn_app (goodIn_of _ (by decide +kernel)) ggX6_draw_X6_added
theorem dX6_draw_0 : decode cX6_draw 0 = .ok (.iload_n 1, 1) := by decide +kernel
theorem dX6_draw_1 : decode cX6_draw 1 = .ok (.invokestatic 60, 3) := by decide +kernel
theorem dX6_draw_4 : decode cX6_draw 4 = .ok (.ifCond .eq 21, 3) := by decide +kernel
theorem dX6_draw_7 : decode cX6_draw 7 = .ok (.iload_n 2, 1) := by decide +kernel
theorem dX6_draw_8 : decode cX6_draw 8 = .ok (.invokestatic 64, 3) := by decide +kernel
theorem dX6_draw_11 : decode cX6_draw 11 = .ok (.ifCond .eq 14, 3) := by decide +kernel
theorem dX6_draw_14 : decode cX6_draw 14 = .ok (.iload 4, 2) := by decide +kernel
theorem dX6_draw_16 : decode cX6_draw 16 = .ok (.iconst 1, 1) := by decide +kernel
theorem dX6_draw_17 : decode cX6_draw 17 = .ok (.bipush 32, 2) := by decide +kernel
theorem dX6_draw_19 : decode cX6_draw 19 = .ok (.invokestatic 42, 3) := by decide +kernel
theorem dX6_draw_22 : decode cX6_draw 22 = .ok (.ifCond .ne 5, 3) := by decide +kernel
theorem dX6_draw_25 : decode cX6_draw 25 = .ok (.iconst (-1), 1) := by decide +kernel
theorem dX6_draw_26 : decode cX6_draw 26 = .ok (.ireturn, 1) := by decide +kernel
theorem dX6_draw_27 : decode cX6_draw 27 = .ok (.aload_n 0, 1) := by decide +kernel
theorem dX6_draw_28 : decode cX6_draw 28 = .ok (.getfield 19, 3) := by decide +kernel
theorem dX6_draw_31 : decode cX6_draw 31 = .ok (.iload_n 1, 1) := by decide +kernel
theorem dX6_draw_32 : decode cX6_draw 32 = .ok (.aaload, 1) := by decide +kernel
theorem dX6_draw_33 : decode cX6_draw 33 = .ok (.astore 5, 2) := by decide +kernel
theorem dX6_draw_35 : decode cX6_draw 35 = .ok (.aload 5, 2) := by decide +kernel
theorem dX6_draw_37 : decode cX6_draw 37 = .ok (.ifnonnull 6, 3) := by decide +kernel
theorem dX6_draw_40 : decode cX6_draw 40 = .ok (.bipush (-11), 2) := by decide +kernel
theorem dX6_draw_42 : decode cX6_draw 42 = .ok (.ireturn, 1) := by decide +kernel
theorem dX6_draw_43 : decode cX6_draw 43 = .ok (.aload 5, 2) := by decide +kernel
theorem dX6_draw_45 : decode cX6_draw 45 = .ok (.getfield 76, 3) := by decide +kernel
theorem dX6_draw_48 : decode cX6_draw 48 = .ok (.iload_n 2, 1) := by decide +kernel
theorem dX6_draw_49 : decode cX6_draw 49 = .ok (.if_icmp .eq 6, 3) := by decide +kernel
theorem dX6_draw_52 : decode cX6_draw 52 = .ok (.bipush (-13), 2) := by decide +kernel
theorem dX6_draw_54 : decode cX6_draw 54 = .ok (.ireturn, 1) := by decide +kernel
theorem dX6_draw_55 : decode cX6_draw 55 = .ok (.lconst 0, 1) := by decide +kernel
theorem dX6_draw_56 : decode cX6_draw 56 = .ok (.lstore 6, 2) := by decide +kernel
theorem dX6_draw_58 : decode cX6_draw 58 = .ok (.iconst 0, 1) := by decide +kernel
theorem dX6_draw_59 : decode cX6_draw 59 = .ok (.istore 8, 2) := by decide +kernel
theorem dX6_draw_61 : decode cX6_draw 61 = .ok (.iload 8, 2) := by decide +kernel
theorem dX6_draw_63 : decode cX6_draw 63 = .ok (.iload 4, 2) := by decide +kernel
theorem dX6_draw_65 : decode cX6_draw 65 = .ok (.if_icmp .ge 71, 3) := by decide +kernel
theorem dX6_draw_68 : decode cX6_draw 68 = .ok (.aload 5, 2) := by decide +kernel
theorem dX6_draw_70 : decode cX6_draw 70 = .ok (.iload_n 3, 1) := by decide +kernel
theorem dX6_draw_71 : decode cX6_draw 71 = .ok (.iload 8, 2) := by decide +kernel
theorem dX6_draw_73 : decode cX6_draw 73 = .ok (.iadd, 1) := by decide +kernel
theorem dX6_draw_74 : decode cX6_draw 74 = .ok (.invokevirtual 70, 3) := by decide +kernel
theorem dX6_draw_77 : decode cX6_draw 77 = .ok (.ifCond .ne 6, 3) := by decide +kernel
theorem dX6_draw_80 : decode cX6_draw 80 = .ok (.bipush (-12), 2) := by decide +kernel
theorem dX6_draw_82 : decode cX6_draw 82 = .ok (.ireturn, 1) := by decide +kernel
theorem dX6_draw_83 : decode cX6_draw 83 = .ok (.aload 5, 2) := by decide +kernel
theorem dX6_draw_85 : decode cX6_draw 85 = .ok (.iload_n 3, 1) := by decide +kernel
theorem dX6_draw_86 : decode cX6_draw 86 = .ok (.iload 8, 2) := by decide +kernel
theorem dX6_draw_88 : decode cX6_draw 88 = .ok (.iadd, 1) := by decide +kernel
theorem dX6_draw_89 : decode cX6_draw 89 = .ok (.invokevirtual 79, 3) := by decide +kernel
theorem dX6_draw_92 : decode cX6_draw 92 = .ok (.istore 9, 2) := by decide +kernel
theorem dX6_draw_94 : decode cX6_draw 94 = .ok (.iload 9, 2) := by decide +kernel
theorem dX6_draw_96 : decode cX6_draw 96 = .ok (.iconst 1, 1) := by decide +kernel
theorem dX6_draw_97 : decode cX6_draw 97 = .ok (.if_icmp .eq 15, 3) := by decide +kernel
theorem dX6_draw_100 : decode cX6_draw 100 = .ok (.iload 9, 2) := by decide +kernel
theorem dX6_draw_102 : decode cX6_draw 102 = .ok (.iconst (-1), 1) := by decide +kernel
theorem dX6_draw_103 : decode cX6_draw 103 = .ok (.if_icmp .eq 9, 3) := by decide +kernel
theorem dX6_draw_106 : decode cX6_draw 106 = .ok (.bipush (-20), 2) := by decide +kernel
theorem dX6_draw_108 : decode cX6_draw 108 = .ok (.iload 8, 2) := by decide +kernel
theorem dX6_draw_110 : decode cX6_draw 110 = .ok (.isub, 1) := by decide +kernel
theorem dX6_draw_111 : decode cX6_draw 111 = .ok (.ireturn, 1) := by decide +kernel
theorem dX6_draw_112 : decode cX6_draw 112 = .ok (.lload 6, 2) := by decide +kernel
theorem dX6_draw_114 : decode cX6_draw 114 = .ok (.iload 9, 2) := by decide +kernel
theorem dX6_draw_116 : decode cX6_draw 116 = .ok (.ifCond .ge 10, 3) := by decide +kernel
theorem dX6_draw_119 : decode cX6_draw 119 = .ok (.lconst 1, 1) := by decide +kernel
theorem dX6_draw_120 : decode cX6_draw 120 = .ok (.iload 8, 2) := by decide +kernel
theorem dX6_draw_122 : decode cX6_draw 122 = .ok (.lshl, 1) := by decide +kernel
theorem dX6_draw_123 : decode cX6_draw 123 = .ok (.goto 4, 3) := by decide +kernel
theorem dX6_draw_126 : decode cX6_draw 126 = .ok (.lconst 0, 1) := by decide +kernel
theorem dX6_draw_127 : decode cX6_draw 127 = .ok (.lor, 1) := by decide +kernel
theorem dX6_draw_128 : decode cX6_draw 128 = .ok (.lstore 6, 2) := by decide +kernel
theorem dX6_draw_130 : decode cX6_draw 130 = .ok (.iinc 8 1, 3) := by decide +kernel
theorem dX6_draw_133 : decode cX6_draw 133 = .ok (.goto (-72), 3) := by decide +kernel
theorem dX6_draw_136 : decode cX6_draw 136 = .ok (.aload_n 0, 1) := by decide +kernel
theorem dX6_draw_137 : decode cX6_draw 137 = .ok (.iload 4, 2) := by decide +kernel
theorem dX6_draw_139 : decode cX6_draw 139 = .ok (.iconst 1, 1) := by decide +kernel
theorem dX6_draw_140 : decode cX6_draw 140 = .ok (.invokevirtual 52, 3) := by decide +kernel
theorem dX6_draw_143 : decode cX6_draw 143 = .ok (.ifCond .eq 14, 3) := by decide +kernel
theorem dX6_draw_146 : decode cX6_draw 146 = .ok (.aload_n 0, 1) := by decide +kernel
theorem dX6_draw_147 : decode cX6_draw 147 = .ok (.iload 4, 2) := by decide +kernel
theorem dX6_draw_149 : decode cX6_draw 149 = .ok (.lload 6, 2) := by decide +kernel
theorem dX6_draw_151 : decode cX6_draw 151 = .ok (.invokevirtual 56, 3) := by decide +kernel
theorem dX6_draw_154 : decode cX6_draw 154 = .ok (.goto 5, 3) := by decide +kernel
theorem dX6_draw_157 : decode cX6_draw 157 = .ok (.bipush (-3), 2) := by decide +kernel
theorem dX6_draw_159 : decode cX6_draw 159 = .ok (.ireturn, 1) := by decide +kernel
theorem dX6_drop_0 : decode cX6_drop 0 = .ok (.aload_n 0, 1) := by decide +kernel
theorem dX6_drop_1 : decode cX6_drop 1 = .ok (.getfield 38, 3) := by decide +kernel
theorem dX6_drop_4 : decode cX6_drop 4 = .ok (.ifCond .ne 6, 3) := by decide +kernel
theorem dX6_drop_7 : decode cX6_drop 7 = .ok (.bipush (-4), 2) := by decide +kernel
theorem dX6_drop_9 : decode cX6_drop 9 = .ok (.ireturn, 1) := by decide +kernel
theorem dX6_drop_10 : decode cX6_drop 10 = .ok (.aload_n 0, 1) := by decide +kernel
theorem dX6_drop_11 : decode cX6_drop 11 = .ok (.dup, 1) := by decide +kernel
theorem dX6_drop_12 : decode cX6_drop 12 = .ok (.getfield 38, 3) := by decide +kernel
theorem dX6_drop_15 : decode cX6_drop 15 = .ok (.iconst 1, 1) := by decide +kernel
theorem dX6_drop_16 : decode cX6_drop 16 = .ok (.isub, 1) := by decide +kernel
theorem dX6_drop_17 : decode cX6_drop 17 = .ok (.putfield 38, 3) := by decide +kernel
theorem dX6_drop_20 : decode cX6_drop 20 = .ok (.aload_n 0, 1) := by decide +kernel
theorem dX6_drop_21 : decode cX6_drop 21 = .ok (.getfield 38, 3) := by decide +kernel
theorem dX6_drop_24 : decode cX6_drop 24 = .ok (.ireturn, 1) := by decide +kernel
set_option maxRecDepth 20000 in
theorem ggX6_length_X6_isRow : GoodIn wsX6_length wsX6_isRow := goodIn_r _ [6, 7, 8, 9, 5, 10, 11, 12, 13, 14, 15, 16, 17] (by decide +kernel) (by decide +kernel)
set_option maxRecDepth 20000 in
theorem gX6_length_X6_isRow : GoodIn wsX6_length (wsV RX6 83 RX6 yX6_isRow wsX6_isRow) := goodIn_app (goodIn_of _ (by decide +kernel)) ggX6_length_X6_isRow
theorem dX6_length_0 : decode cX6_length 0 = .ok (.aload_n 0, 1) := by decide +kernel
theorem dX6_length_1 : decode cX6_length 1 = .ok (.iload_n 1, 1) := by decide +kernel
theorem dX6_length_2 : decode cX6_length 2 = .ok (.invokevirtual 83, 3) := by decide +kernel
theorem dX6_length_5 : decode cX6_length 5 = .ok (.ifCond .eq 12, 3) := by decide +kernel
theorem dX6_length_8 : decode cX6_length 8 = .ok (.aload_n 0, 1) := by decide +kernel
theorem dX6_length_9 : decode cX6_length 9 = .ok (.getfield 9, 3) := by decide +kernel
theorem dX6_length_12 : decode cX6_length 12 = .ok (.iload_n 1, 1) := by decide +kernel
theorem dX6_length_13 : decode cX6_length 13 = .ok (.iaload, 1) := by decide +kernel
theorem dX6_length_14 : decode cX6_length 14 = .ok (.goto 4, 3) := by decide +kernel
theorem dX6_length_17 : decode cX6_length 17 = .ok (.iconst (-1), 1) := by decide +kernel
theorem dX6_length_18 : decode cX6_length 18 = .ok (.ireturn, 1) := by decide +kernel
set_option maxRecDepth 20000 in
theorem ggX6_place_X6_isRow : GoodIn wsX6_place wsX6_isRow := goodIn_r _ [7, 8, 9, 10, 6, 11, 16, 17, 18, 19, 20, 21, 22] (by decide +kernel) (by decide +kernel)
set_option maxRecDepth 20000 in
theorem gX6_place_X6_isRow : GoodIn wsX6_place (wsV RX6 83 RX6 yX6_isRow wsX6_isRow) := goodIn_app (goodIn_of _ (by decide +kernel)) ggX6_place_X6_isRow
set_option maxRecDepth 20000 in
theorem ggX6_place_X6_within : GoodIn wsX6_place wsX6_within := goodIn_r _ [11] (by decide +kernel) (by decide +kernel)
set_option maxRecDepth 20000 in
theorem gX6_place_X6_within : GoodIn wsX6_place (va_wsS RX6 42 yX6_within wsX6_within) := goodIn_app (goodIn_of _ (by decide +kernel)) ggX6_place_X6_within
set_option maxRecDepth 20000 in
theorem ggX6_place_X3_sign : GoodIn wsX6_place wsX3_sign := goodIn_r _ [15] (by decide +kernel) (by decide +kernel)
set_option maxRecDepth 20000 in
theorem gX6_place_X3_sign : GoodIn wsX6_place (va_wsS RX6 86 yX3_sign wsX3_sign) := goodIn_app (goodIn_of _ (by decide +kernel)) ggX6_place_X3_sign
theorem dX6_place_0 : decode cX6_place 0 = .ok (.aload_n 0, 1) := by decide +kernel
theorem dX6_place_1 : decode cX6_place 1 = .ok (.iload_n 1, 1) := by decide +kernel
theorem dX6_place_2 : decode cX6_place 2 = .ok (.invokevirtual 83, 3) := by decide +kernel
theorem dX6_place_5 : decode cX6_place 5 = .ok (.ifCond .eq 32, 3) := by decide +kernel
theorem dX6_place_8 : decode cX6_place 8 = .ok (.iload_n 2, 1) := by decide +kernel
theorem dX6_place_9 : decode cX6_place 9 = .ok (.iconst 0, 1) := by decide +kernel
theorem dX6_place_10 : decode cX6_place 10 = .ok (.aload_n 0, 1) := by decide +kernel
theorem dX6_place_11 : decode cX6_place 11 = .ok (.getfield 9, 3) := by decide +kernel
theorem dX6_place_14 : decode cX6_place 14 = .ok (.iload_n 1, 1) := by decide +kernel
theorem dX6_place_15 : decode cX6_place 15 = .ok (.iaload, 1) := by decide +kernel
theorem dX6_place_16 : decode cX6_place 16 = .ok (.iconst 1, 1) := by decide +kernel
theorem dX6_place_17 : decode cX6_place 17 = .ok (.isub, 1) := by decide +kernel
theorem dX6_place_18 : decode cX6_place 18 = .ok (.invokestatic 42, 3) := by decide +kernel
theorem dX6_place_21 : decode cX6_place 21 = .ok (.ifCond .eq 16, 3) := by decide +kernel
theorem dX6_place_24 : decode cX6_place 24 = .ok (.aload_n 0, 1) := by decide +kernel
theorem dX6_place_25 : decode cX6_place 25 = .ok (.getfield 13, 3) := by decide +kernel
theorem dX6_place_28 : decode cX6_place 28 = .ok (.iload_n 1, 1) := by decide +kernel
theorem dX6_place_29 : decode cX6_place 29 = .ok (.laload, 1) := by decide +kernel
theorem dX6_place_30 : decode cX6_place 30 = .ok (.iload_n 2, 1) := by decide +kernel
theorem dX6_place_31 : decode cX6_place 31 = .ok (.invokestatic 86, 3) := by decide +kernel
theorem dX6_place_34 : decode cX6_place 34 = .ok (.goto 4, 3) := by decide +kernel
theorem dX6_place_37 : decode cX6_place 37 = .ok (.iconst 0, 1) := by decide +kernel
theorem dX6_place_38 : decode cX6_place 38 = .ok (.ireturn, 1) := by decide +kernel
set_option maxRecDepth 20000 in
theorem ggX6_number_X6_isRow : GoodIn wsX6_number wsX6_isRow := goodIn_r _ [7, 8, 9, 10, 6, 11, 12, 13, 14, 15, 16, 17, 18] (by decide +kernel) (by decide +kernel)
set_option maxRecDepth 20000 in
theorem gX6_number_X6_isRow : GoodIn wsX6_number (wsV RX6 83 RX6 yX6_isRow wsX6_isRow) := goodIn_app (goodIn_of _ (by decide +kernel)) ggX6_number_X6_isRow
theorem dX6_number_0 : decode cX6_number 0 = .ok (.aload_n 0, 1) := by decide +kernel
theorem dX6_number_1 : decode cX6_number 1 = .ok (.iload_n 1, 1) := by decide +kernel
theorem dX6_number_2 : decode cX6_number 2 = .ok (.invokevirtual 83, 3) := by decide +kernel
theorem dX6_number_5 : decode cX6_number 5 = .ok (.ifCond .eq 12, 3) := by decide +kernel
theorem dX6_number_8 : decode cX6_number 8 = .ok (.aload_n 0, 1) := by decide +kernel
theorem dX6_number_9 : decode cX6_number 9 = .ok (.getfield 13, 3) := by decide +kernel
theorem dX6_number_12 : decode cX6_number 12 = .ok (.iload_n 1, 1) := by decide +kernel
theorem dX6_number_13 : decode cX6_number 13 = .ok (.laload, 1) := by decide +kernel
theorem dX6_number_14 : decode cX6_number 14 = .ok (.goto 6, 3) := by decide +kernel
theorem dX6_number_17 : decode cX6_number 17 = .ok (.ldc2_w 90, 3) := by decide +kernel
theorem dX6_number_20 : decode cX6_number 20 = .ok (.lreturn, 1) := by decide +kernel
set_option maxRecDepth 20000 in
theorem ggX6_open_X6_isRow : GoodIn wsX6_open wsX6_isRow := goodIn_r _ [7, 8, 9, 10, 6, 11, 26, 27, 28, 29, 30, 31, 32] (by decide +kernel) (by decide +kernel)
set_option maxRecDepth 20000 in
theorem gX6_open_X6_isRow : GoodIn wsX6_open (wsV RX6 83 RX6 yX6_isRow wsX6_isRow) := goodIn_app (goodIn_of _ (by decide +kernel)) ggX6_open_X6_isRow
set_option maxRecDepth 20000 in
theorem ggX6_open_X6_within : GoodIn wsX6_open wsX6_within := goodIn_r _ [11] (by decide +kernel) (by decide +kernel)
set_option maxRecDepth 20000 in
theorem gX6_open_X6_within : GoodIn wsX6_open (va_wsS RX6 42 yX6_within wsX6_within) := goodIn_app (goodIn_of _ (by decide +kernel)) ggX6_open_X6_within
set_option maxRecDepth 20000 in
theorem ggX6_open_X3_openSum : GoodIn wsX6_open wsX3_openSum := goodIn_r _ [15, 16, 17, 14, 18, 19, 20, 21, 22, 23, 24, 25] (by decide +kernel) (by decide +kernel)
set_option maxRecDepth 20000 in
theorem gX6_open_X3_openSum : GoodIn wsX6_open (va_wsS RX6 92 yX3_openSum wsX3_openSum) := goodIn_app (goodIn_of _ (by decide +kernel)) ggX6_open_X3_openSum
theorem dX6_open_0 : decode cX6_open 0 = .ok (.aload_n 0, 1) := by decide +kernel
theorem dX6_open_1 : decode cX6_open 1 = .ok (.iload_n 1, 1) := by decide +kernel
theorem dX6_open_2 : decode cX6_open 2 = .ok (.invokevirtual 83, 3) := by decide +kernel
theorem dX6_open_5 : decode cX6_open 5 = .ok (.ifCond .eq 38, 3) := by decide +kernel
theorem dX6_open_8 : decode cX6_open 8 = .ok (.iload_n 2, 1) := by decide +kernel
theorem dX6_open_9 : decode cX6_open 9 = .ok (.iconst 0, 1) := by decide +kernel
theorem dX6_open_10 : decode cX6_open 10 = .ok (.aload_n 0, 1) := by decide +kernel
theorem dX6_open_11 : decode cX6_open 11 = .ok (.getfield 9, 3) := by decide +kernel
theorem dX6_open_14 : decode cX6_open 14 = .ok (.iload_n 1, 1) := by decide +kernel
theorem dX6_open_15 : decode cX6_open 15 = .ok (.iaload, 1) := by decide +kernel
theorem dX6_open_16 : decode cX6_open 16 = .ok (.iconst 1, 1) := by decide +kernel
theorem dX6_open_17 : decode cX6_open 17 = .ok (.isub, 1) := by decide +kernel
theorem dX6_open_18 : decode cX6_open 18 = .ok (.invokestatic 42, 3) := by decide +kernel
theorem dX6_open_21 : decode cX6_open 21 = .ok (.ifCond .eq 22, 3) := by decide +kernel
theorem dX6_open_24 : decode cX6_open 24 = .ok (.aload_n 0, 1) := by decide +kernel
theorem dX6_open_25 : decode cX6_open 25 = .ok (.getfield 13, 3) := by decide +kernel
theorem dX6_open_28 : decode cX6_open 28 = .ok (.iload_n 1, 1) := by decide +kernel
theorem dX6_open_29 : decode cX6_open 29 = .ok (.laload, 1) := by decide +kernel
theorem dX6_open_30 : decode cX6_open 30 = .ok (.aload_n 0, 1) := by decide +kernel
theorem dX6_open_31 : decode cX6_open 31 = .ok (.getfield 9, 3) := by decide +kernel
theorem dX6_open_34 : decode cX6_open 34 = .ok (.iload_n 1, 1) := by decide +kernel
theorem dX6_open_35 : decode cX6_open 35 = .ok (.iaload, 1) := by decide +kernel
theorem dX6_open_36 : decode cX6_open 36 = .ok (.iload_n 2, 1) := by decide +kernel
theorem dX6_open_37 : decode cX6_open 37 = .ok (.invokestatic 92, 3) := by decide +kernel
theorem dX6_open_40 : decode cX6_open 40 = .ok (.goto 6, 3) := by decide +kernel
theorem dX6_open_43 : decode cX6_open 43 = .ok (.sipush 1000, 3) := by decide +kernel
theorem dX6_open_46 : decode cX6_open 46 = .ok (.ireturn, 1) := by decide +kernel
set_option maxRecDepth 20000 in
theorem ggX6_round_X6_isRow : GoodIn wsX6_round wsX6_isRow := goodIn_r _ [7, 8, 9, 10, 6, 11, 26, 27, 28, 29, 30, 31, 32] (by decide +kernel) (by decide +kernel)
set_option maxRecDepth 20000 in
theorem gX6_round_X6_isRow : GoodIn wsX6_round (wsV RX6 83 RX6 yX6_isRow wsX6_isRow) := goodIn_app (goodIn_of _ (by decide +kernel)) ggX6_round_X6_isRow
set_option maxRecDepth 20000 in
theorem ggX6_round_X6_within : GoodIn wsX6_round wsX6_within := goodIn_r _ [11] (by decide +kernel) (by decide +kernel)
set_option maxRecDepth 20000 in
theorem gX6_round_X6_within : GoodIn wsX6_round (va_wsS RX6 42 yX6_within wsX6_within) := goodIn_app (goodIn_of _ (by decide +kernel)) ggX6_round_X6_within
set_option maxRecDepth 20000 in
theorem ggX6_round_X3_roundSum : GoodIn wsX6_round wsX3_roundSum := goodIn_r _ [15, 16, 17, 14, 18, 19, 20, 21, 22, 23, 24, 25] (by decide +kernel) (by decide +kernel)
set_option maxRecDepth 20000 in
theorem gX6_round_X3_roundSum : GoodIn wsX6_round (va_wsS RX6 96 yX3_roundSum wsX3_roundSum) := goodIn_app (goodIn_of _ (by decide +kernel)) ggX6_round_X3_roundSum
theorem dX6_round_0 : decode cX6_round 0 = .ok (.aload_n 0, 1) := by decide +kernel
theorem dX6_round_1 : decode cX6_round 1 = .ok (.iload_n 1, 1) := by decide +kernel
theorem dX6_round_2 : decode cX6_round 2 = .ok (.invokevirtual 83, 3) := by decide +kernel
theorem dX6_round_5 : decode cX6_round 5 = .ok (.ifCond .eq 38, 3) := by decide +kernel
theorem dX6_round_8 : decode cX6_round 8 = .ok (.iload_n 2, 1) := by decide +kernel
theorem dX6_round_9 : decode cX6_round 9 = .ok (.iconst 0, 1) := by decide +kernel
theorem dX6_round_10 : decode cX6_round 10 = .ok (.aload_n 0, 1) := by decide +kernel
theorem dX6_round_11 : decode cX6_round 11 = .ok (.getfield 9, 3) := by decide +kernel
theorem dX6_round_14 : decode cX6_round 14 = .ok (.iload_n 1, 1) := by decide +kernel
theorem dX6_round_15 : decode cX6_round 15 = .ok (.iaload, 1) := by decide +kernel
theorem dX6_round_16 : decode cX6_round 16 = .ok (.iconst 1, 1) := by decide +kernel
theorem dX6_round_17 : decode cX6_round 17 = .ok (.isub, 1) := by decide +kernel
theorem dX6_round_18 : decode cX6_round 18 = .ok (.invokestatic 42, 3) := by decide +kernel
theorem dX6_round_21 : decode cX6_round 21 = .ok (.ifCond .eq 22, 3) := by decide +kernel
theorem dX6_round_24 : decode cX6_round 24 = .ok (.aload_n 0, 1) := by decide +kernel
theorem dX6_round_25 : decode cX6_round 25 = .ok (.getfield 13, 3) := by decide +kernel
theorem dX6_round_28 : decode cX6_round 28 = .ok (.iload_n 1, 1) := by decide +kernel
theorem dX6_round_29 : decode cX6_round 29 = .ok (.laload, 1) := by decide +kernel
theorem dX6_round_30 : decode cX6_round 30 = .ok (.aload_n 0, 1) := by decide +kernel
theorem dX6_round_31 : decode cX6_round 31 = .ok (.getfield 9, 3) := by decide +kernel
theorem dX6_round_34 : decode cX6_round 34 = .ok (.iload_n 1, 1) := by decide +kernel
theorem dX6_round_35 : decode cX6_round 35 = .ok (.iaload, 1) := by decide +kernel
theorem dX6_round_36 : decode cX6_round 36 = .ok (.iload_n 2, 1) := by decide +kernel
theorem dX6_round_37 : decode cX6_round 37 = .ok (.invokestatic 96, 3) := by decide +kernel
theorem dX6_round_40 : decode cX6_round 40 = .ok (.goto 6, 3) := by decide +kernel
theorem dX6_round_43 : decode cX6_round 43 = .ok (.sipush 1000, 3) := by decide +kernel
theorem dX6_round_46 : decode cX6_round 46 = .ok (.ireturn, 1) := by decide +kernel
set_option maxRecDepth 20000 in
theorem ggX6_about_X6_isRow : GoodIn wsX6_about wsX6_isRow := goodIn_r _ [7, 8, 9, 10, 6, 11, 61, 62, 63, 64, 65, 66, 67] (by decide +kernel) (by decide +kernel)
set_option maxRecDepth 20000 in
theorem gX6_about_X6_isRow : GoodIn wsX6_about (wsV RX6 83 RX6 yX6_isRow wsX6_isRow) := goodIn_app (goodIn_of _ (by decide +kernel)) ggX6_about_X6_isRow
set_option maxRecDepth 20000 in
theorem ggX6_about_X3_peak : GoodIn wsX6_about wsX3_peak := goodIn_r _ [15, 16, 17, 18, 19, 20, 21, 22, 23, 24, 14, 25, 26, 27, 28, 29, 30, 31, 32, 33, 34, 35] (by decide +kernel) (by decide +kernel)
set_option maxRecDepth 20000 in
theorem gX6_about_X3_peak : GoodIn wsX6_about (va_wsS RX6 99 yX3_peak wsX3_peak) := goodIn_app (goodIn_of _ (by decide +kernel)) ggX6_about_X3_peak
set_option maxRecDepth 20000 in
theorem ggX6_about_X3_energy : GoodIn wsX6_about wsX3_energy := goodIn_r _ [38, 23, 24, 14, 25, 26, 27, 28, 29, 30, 31, 32, 33, 34, 35] (by decide +kernel) (by decide +kernel)
set_option maxRecDepth 20000 in
theorem gX6_about_X3_energy : GoodIn wsX6_about (va_wsS RX6 102 yX3_energy wsX3_energy) := goodIn_app (goodIn_of _ (by decide +kernel)) ggX6_about_X3_energy
set_option maxRecDepth 20000 in
theorem ggX6_about_X3_total : GoodIn wsX6_about wsX3_total := goodIn_r _ [41, 29, 30, 31, 32, 33, 34, 35] (by decide +kernel) (by decide +kernel)
set_option maxRecDepth 20000 in
theorem gX6_about_X3_total : GoodIn wsX6_about (va_wsS RX6 105 yX3_total wsX3_total) := goodIn_app (goodIn_of _ (by decide +kernel)) ggX6_about_X3_total
set_option maxRecDepth 20000 in
theorem ggX6_about_X3_changes : GoodIn wsX6_about wsX3_changes := goodIn_r _ [44, 26, 27, 14, 28, 29, 30, 31, 32, 33, 34, 35] (by decide +kernel) (by decide +kernel)
set_option maxRecDepth 20000 in
theorem gX6_about_X3_changes : GoodIn wsX6_about (va_wsS RX6 108 yX3_changes wsX3_changes) := goodIn_app (goodIn_of _ (by decide +kernel)) ggX6_about_X3_changes
set_option maxRecDepth 20000 in
theorem ggX6_about_X3_unlikeTurned : GoodIn wsX6_about wsX3_unlikeTurned := goodIn_r _ [47, 48, 49, 14, 50, 51, 52, 53, 54, 55, 56, 57, 58, 59, 60, 26, 27, 28] (by decide +kernel) (by decide +kernel)
set_option maxRecDepth 20000 in
theorem gX6_about_X3_unlikeTurned : GoodIn wsX6_about (va_wsS RX6 111 yX3_unlikeTurned wsX3_unlikeTurned) := goodIn_app (goodIn_of _ (by decide +kernel)) ggX6_about_X3_unlikeTurned
theorem dX6_about_0 : decode cX6_about 0 = .ok (.aload_n 0, 1) := by decide +kernel
theorem dX6_about_1 : decode cX6_about 1 = .ok (.iload_n 1, 1) := by decide +kernel
theorem dX6_about_2 : decode cX6_about 2 = .ok (.invokevirtual 83, 3) := by decide +kernel
theorem dX6_about_5 : decode cX6_about 5 = .ok (.ifCond .ne 5, 3) := by decide +kernel
theorem dX6_about_8 : decode cX6_about 8 = .ok (.iconst (-1), 1) := by decide +kernel
theorem dX6_about_9 : decode cX6_about 9 = .ok (.ireturn, 1) := by decide +kernel
theorem dX6_about_10 : decode cX6_about 10 = .ok (.iload_n 2, 1) := by decide +kernel
theorem dX6_about_11 : decode cX6_about 11 = .ok (.tableswitch 113 0 4 #[33, 49, 65, 81, 97], 33) := by decide +kernel
theorem dX6_about_44 : decode cX6_about 44 = .ok (.aload_n 0, 1) := by decide +kernel
theorem dX6_about_45 : decode cX6_about 45 = .ok (.getfield 13, 3) := by decide +kernel
theorem dX6_about_48 : decode cX6_about 48 = .ok (.iload_n 1, 1) := by decide +kernel
theorem dX6_about_49 : decode cX6_about 49 = .ok (.laload, 1) := by decide +kernel
theorem dX6_about_50 : decode cX6_about 50 = .ok (.aload_n 0, 1) := by decide +kernel
theorem dX6_about_51 : decode cX6_about 51 = .ok (.getfield 9, 3) := by decide +kernel
theorem dX6_about_54 : decode cX6_about 54 = .ok (.iload_n 1, 1) := by decide +kernel
theorem dX6_about_55 : decode cX6_about 55 = .ok (.iaload, 1) := by decide +kernel
theorem dX6_about_56 : decode cX6_about 56 = .ok (.invokestatic 99, 3) := by decide +kernel
theorem dX6_about_59 : decode cX6_about 59 = .ok (.ireturn, 1) := by decide +kernel
theorem dX6_about_60 : decode cX6_about 60 = .ok (.aload_n 0, 1) := by decide +kernel
theorem dX6_about_61 : decode cX6_about 61 = .ok (.getfield 13, 3) := by decide +kernel
theorem dX6_about_64 : decode cX6_about 64 = .ok (.iload_n 1, 1) := by decide +kernel
theorem dX6_about_65 : decode cX6_about 65 = .ok (.laload, 1) := by decide +kernel
theorem dX6_about_66 : decode cX6_about 66 = .ok (.aload_n 0, 1) := by decide +kernel
theorem dX6_about_67 : decode cX6_about 67 = .ok (.getfield 9, 3) := by decide +kernel
theorem dX6_about_70 : decode cX6_about 70 = .ok (.iload_n 1, 1) := by decide +kernel
theorem dX6_about_71 : decode cX6_about 71 = .ok (.iaload, 1) := by decide +kernel
theorem dX6_about_72 : decode cX6_about 72 = .ok (.invokestatic 102, 3) := by decide +kernel
theorem dX6_about_75 : decode cX6_about 75 = .ok (.ireturn, 1) := by decide +kernel
theorem dX6_about_76 : decode cX6_about 76 = .ok (.aload_n 0, 1) := by decide +kernel
theorem dX6_about_77 : decode cX6_about 77 = .ok (.getfield 13, 3) := by decide +kernel
theorem dX6_about_80 : decode cX6_about 80 = .ok (.iload_n 1, 1) := by decide +kernel
theorem dX6_about_81 : decode cX6_about 81 = .ok (.laload, 1) := by decide +kernel
theorem dX6_about_82 : decode cX6_about 82 = .ok (.aload_n 0, 1) := by decide +kernel
theorem dX6_about_83 : decode cX6_about 83 = .ok (.getfield 9, 3) := by decide +kernel
theorem dX6_about_86 : decode cX6_about 86 = .ok (.iload_n 1, 1) := by decide +kernel
theorem dX6_about_87 : decode cX6_about 87 = .ok (.iaload, 1) := by decide +kernel
theorem dX6_about_88 : decode cX6_about 88 = .ok (.invokestatic 105, 3) := by decide +kernel
theorem dX6_about_91 : decode cX6_about 91 = .ok (.ireturn, 1) := by decide +kernel
theorem dX6_about_92 : decode cX6_about 92 = .ok (.aload_n 0, 1) := by decide +kernel
theorem dX6_about_93 : decode cX6_about 93 = .ok (.getfield 13, 3) := by decide +kernel
theorem dX6_about_96 : decode cX6_about 96 = .ok (.iload_n 1, 1) := by decide +kernel
theorem dX6_about_97 : decode cX6_about 97 = .ok (.laload, 1) := by decide +kernel
theorem dX6_about_98 : decode cX6_about 98 = .ok (.aload_n 0, 1) := by decide +kernel
theorem dX6_about_99 : decode cX6_about 99 = .ok (.getfield 9, 3) := by decide +kernel
theorem dX6_about_102 : decode cX6_about 102 = .ok (.iload_n 1, 1) := by decide +kernel
theorem dX6_about_103 : decode cX6_about 103 = .ok (.iaload, 1) := by decide +kernel
theorem dX6_about_104 : decode cX6_about 104 = .ok (.invokestatic 108, 3) := by decide +kernel
theorem dX6_about_107 : decode cX6_about 107 = .ok (.ireturn, 1) := by decide +kernel
theorem dX6_about_108 : decode cX6_about 108 = .ok (.aload_n 0, 1) := by decide +kernel
theorem dX6_about_109 : decode cX6_about 109 = .ok (.getfield 13, 3) := by decide +kernel
theorem dX6_about_112 : decode cX6_about 112 = .ok (.iload_n 1, 1) := by decide +kernel
theorem dX6_about_113 : decode cX6_about 113 = .ok (.laload, 1) := by decide +kernel
theorem dX6_about_114 : decode cX6_about 114 = .ok (.aload_n 0, 1) := by decide +kernel
theorem dX6_about_115 : decode cX6_about 115 = .ok (.getfield 9, 3) := by decide +kernel
theorem dX6_about_118 : decode cX6_about 118 = .ok (.iload_n 1, 1) := by decide +kernel
theorem dX6_about_119 : decode cX6_about 119 = .ok (.iaload, 1) := by decide +kernel
theorem dX6_about_120 : decode cX6_about 120 = .ok (.invokestatic 111, 3) := by decide +kernel
theorem dX6_about_123 : decode cX6_about 123 = .ok (.ireturn, 1) := by decide +kernel
theorem dX6_about_124 : decode cX6_about 124 = .ok (.iconst (-1), 1) := by decide +kernel
theorem dX6_about_125 : decode cX6_about 125 = .ok (.ireturn, 1) := by decide +kernel
set_option maxRecDepth 20000 in
theorem ggX6_least_X6_isRow : GoodIn wsX6_least wsX6_isRow := goodIn_r _ [8, 9, 10, 11, 7, 12, 34, 35, 36, 37, 38, 39, 40] (by decide +kernel) (by decide +kernel)
set_option maxRecDepth 20000 in
theorem gX6_least_X6_isRow : GoodIn wsX6_least (wsV RX6 83 RX6 yX6_isRow wsX6_isRow) := goodIn_app (goodIn_of _ (by decide +kernel)) ggX6_least_X6_isRow
set_option maxRecDepth 20000 in
theorem ggX6_least_X3_leastTurned : GoodIn wsX6_least wsX3_leastTurned := goodIn_r _ [16, 17, 18, 19, 20, 21, 22, 15, 23, 24, 25, 26, 27, 28, 29, 30, 31, 32, 33] (by decide +kernel) (by decide +kernel)
set_option maxRecDepth 20000 in
theorem gX6_least_X3_leastTurned : GoodIn wsX6_least (va_wsS RX6 114 yX3_leastTurned wsX3_leastTurned) := goodIn_app (goodIn_of _ (by decide +kernel)) ggX6_least_X3_leastTurned
theorem dX6_least_0 : decode cX6_least 0 = .ok (.aload_n 0, 1) := by decide +kernel
theorem dX6_least_1 : decode cX6_least 1 = .ok (.iload_n 1, 1) := by decide +kernel
theorem dX6_least_2 : decode cX6_least 2 = .ok (.invokevirtual 83, 3) := by decide +kernel
theorem dX6_least_5 : decode cX6_least 5 = .ok (.ifCond .eq 21, 3) := by decide +kernel
theorem dX6_least_8 : decode cX6_least 8 = .ok (.aload_n 0, 1) := by decide +kernel
theorem dX6_least_9 : decode cX6_least 9 = .ok (.getfield 13, 3) := by decide +kernel
theorem dX6_least_12 : decode cX6_least 12 = .ok (.iload_n 1, 1) := by decide +kernel
theorem dX6_least_13 : decode cX6_least 13 = .ok (.laload, 1) := by decide +kernel
theorem dX6_least_14 : decode cX6_least 14 = .ok (.aload_n 0, 1) := by decide +kernel
theorem dX6_least_15 : decode cX6_least 15 = .ok (.getfield 9, 3) := by decide +kernel
theorem dX6_least_18 : decode cX6_least 18 = .ok (.iload_n 1, 1) := by decide +kernel
theorem dX6_least_19 : decode cX6_least 19 = .ok (.iaload, 1) := by decide +kernel
theorem dX6_least_20 : decode cX6_least 20 = .ok (.invokestatic 114, 3) := by decide +kernel
theorem dX6_least_23 : decode cX6_least 23 = .ok (.goto 6, 3) := by decide +kernel
theorem dX6_least_26 : decode cX6_least 26 = .ok (.ldc2_w 90, 3) := by decide +kernel
theorem dX6_least_29 : decode cX6_least 29 = .ok (.lreturn, 1) := by decide +kernel
set_option maxRecDepth 20000 in
theorem ggX6_turn_X6_isRow : GoodIn wsX6_turn wsX6_isRow := goodIn_r _ [7, 8, 9, 10, 6, 11, 34, 35, 36, 37, 38, 39, 40] (by decide +kernel) (by decide +kernel)
set_option maxRecDepth 20000 in
theorem gX6_turn_X6_isRow : GoodIn wsX6_turn (wsV RX6 83 RX6 yX6_isRow wsX6_isRow) := goodIn_app (goodIn_of _ (by decide +kernel)) ggX6_turn_X6_isRow
set_option maxRecDepth 20000 in
theorem ggX6_turn_X6_within : GoodIn wsX6_turn wsX6_within := goodIn_r _ [11] (by decide +kernel) (by decide +kernel)
set_option maxRecDepth 20000 in
theorem gX6_turn_X6_within : GoodIn wsX6_turn (va_wsS RX6 42 yX6_within wsX6_within) := goodIn_app (goodIn_of _ (by decide +kernel)) ggX6_turn_X6_within
set_option maxRecDepth 20000 in
theorem ggX6_turn_X6_fits : GoodIn wsX6_turn wsX6_fits := goodIn_r _ [15, 8, 34, 35, 36, 37, 38, 39, 40] (by decide +kernel) (by decide +kernel)
set_option maxRecDepth 20000 in
theorem gX6_turn_X6_fits : GoodIn wsX6_turn (wsV RX6 52 RX6 yX6_fits wsX6_fits) := goodIn_app (goodIn_of _ (by decide +kernel)) ggX6_turn_X6_fits
set_option maxRecDepth 20000 in
theorem ggX6_turn_X3_turned : GoodIn wsX6_turn wsX3_turned := goodIn_r _ [19, 20, 21, 22, 18, 23, 24, 25, 26, 27, 28, 29] (by decide +kernel) (by decide +kernel)
set_option maxRecDepth 20000 in
theorem gX6_turn_X3_turned : GoodIn wsX6_turn (va_wsS RX6 118 yX3_turned wsX3_turned) := goodIn_app (goodIn_of _ (by decide +kernel)) ggX6_turn_X3_turned
set_option maxRecDepth 20000 in
theorem ggX6_turn_X6_added : GoodIn wsX6_turn wsX6_added := goodIn_r _ [33, 8, 1, 2, 34, 35, 36, 37, 38, 39, 40] (by decide +kernel) (by decide +kernel)
set_option maxRecDepth 20000 in
theorem gX6_turn_X6_added : GoodIn wsX6_turn (wsV RX6 56 RX6 yX6_added wsX6_added) := goodIn_app (goodIn_of _ (by decide +kernel)) ggX6_turn_X6_added
theorem dX6_turn_0 : decode cX6_turn 0 = .ok (.aload_n 0, 1) := by decide +kernel
theorem dX6_turn_1 : decode cX6_turn 1 = .ok (.iload_n 1, 1) := by decide +kernel
theorem dX6_turn_2 : decode cX6_turn 2 = .ok (.invokevirtual 83, 3) := by decide +kernel
theorem dX6_turn_5 : decode cX6_turn 5 = .ok (.ifCond .eq 12, 3) := by decide +kernel
theorem dX6_turn_8 : decode cX6_turn 8 = .ok (.iload_n 2, 1) := by decide +kernel
theorem dX6_turn_9 : decode cX6_turn 9 = .ok (.iconst 0, 1) := by decide +kernel
theorem dX6_turn_10 : decode cX6_turn 10 = .ok (.iconst 2, 1) := by decide +kernel
theorem dX6_turn_11 : decode cX6_turn 11 = .ok (.invokestatic 42, 3) := by decide +kernel
theorem dX6_turn_14 : decode cX6_turn 14 = .ok (.ifCond .ne 5, 3) := by decide +kernel
theorem dX6_turn_17 : decode cX6_turn 17 = .ok (.iconst (-1), 1) := by decide +kernel
theorem dX6_turn_18 : decode cX6_turn 18 = .ok (.ireturn, 1) := by decide +kernel
theorem dX6_turn_19 : decode cX6_turn 19 = .ok (.aload_n 0, 1) := by decide +kernel
theorem dX6_turn_20 : decode cX6_turn 20 = .ok (.getfield 9, 3) := by decide +kernel
theorem dX6_turn_23 : decode cX6_turn 23 = .ok (.iload_n 1, 1) := by decide +kernel
theorem dX6_turn_24 : decode cX6_turn 24 = .ok (.iaload, 1) := by decide +kernel
theorem dX6_turn_25 : decode cX6_turn 25 = .ok (.istore_n 3, 1) := by decide +kernel
theorem dX6_turn_26 : decode cX6_turn 26 = .ok (.aload_n 0, 1) := by decide +kernel
theorem dX6_turn_27 : decode cX6_turn 27 = .ok (.iload_n 3, 1) := by decide +kernel
theorem dX6_turn_28 : decode cX6_turn 28 = .ok (.iconst 1, 1) := by decide +kernel
theorem dX6_turn_29 : decode cX6_turn 29 = .ok (.invokevirtual 52, 3) := by decide +kernel
theorem dX6_turn_32 : decode cX6_turn 32 = .ok (.ifCond .eq 24, 3) := by decide +kernel
theorem dX6_turn_35 : decode cX6_turn 35 = .ok (.aload_n 0, 1) := by decide +kernel
theorem dX6_turn_36 : decode cX6_turn 36 = .ok (.iload_n 3, 1) := by decide +kernel
theorem dX6_turn_37 : decode cX6_turn 37 = .ok (.aload_n 0, 1) := by decide +kernel
theorem dX6_turn_38 : decode cX6_turn 38 = .ok (.getfield 13, 3) := by decide +kernel
theorem dX6_turn_41 : decode cX6_turn 41 = .ok (.iload_n 1, 1) := by decide +kernel
theorem dX6_turn_42 : decode cX6_turn 42 = .ok (.laload, 1) := by decide +kernel
theorem dX6_turn_43 : decode cX6_turn 43 = .ok (.iload_n 3, 1) := by decide +kernel
theorem dX6_turn_44 : decode cX6_turn 44 = .ok (.iconst 1, 1) := by decide +kernel
theorem dX6_turn_45 : decode cX6_turn 45 = .ok (.iload_n 2, 1) := by decide +kernel
theorem dX6_turn_46 : decode cX6_turn 46 = .ok (.ishl, 1) := by decide +kernel
theorem dX6_turn_47 : decode cX6_turn 47 = .ok (.invokestatic 118, 3) := by decide +kernel
theorem dX6_turn_50 : decode cX6_turn 50 = .ok (.invokevirtual 56, 3) := by decide +kernel
theorem dX6_turn_53 : decode cX6_turn 53 = .ok (.goto 5, 3) := by decide +kernel
theorem dX6_turn_56 : decode cX6_turn 56 = .ok (.bipush (-3), 2) := by decide +kernel
theorem dX6_turn_58 : decode cX6_turn 58 = .ok (.ireturn, 1) := by decide +kernel
set_option maxRecDepth 20000 in
theorem ggX6_put_X6_isRow : GoodIn wsX6_put wsX6_isRow := goodIn_r _ [7, 8, 9, 10, 6, 11, 24, 25, 26, 27, 28, 29, 30] (by decide +kernel) (by decide +kernel)
set_option maxRecDepth 20000 in
theorem gX6_put_X6_isRow : GoodIn wsX6_put (wsV RX6 83 RX6 yX6_isRow wsX6_isRow) := goodIn_app (goodIn_of _ (by decide +kernel)) ggX6_put_X6_isRow
set_option maxRecDepth 20000 in
theorem ggX6_put_X6_fits : GoodIn wsX6_put wsX6_fits := goodIn_r _ [15, 8, 24, 25, 26, 27, 28, 29, 30] (by decide +kernel) (by decide +kernel)
set_option maxRecDepth 20000 in
theorem gX6_put_X6_fits : GoodIn wsX6_put (wsV RX6 52 RX6 yX6_fits wsX6_fits) := goodIn_app (goodIn_of _ (by decide +kernel)) ggX6_put_X6_fits
set_option maxRecDepth 20000 in
theorem ggX6_put_X3_joined : GoodIn wsX6_put wsX3_joined := goodIn_r _ [19] (by decide +kernel) (by decide +kernel)
set_option maxRecDepth 20000 in
theorem gX6_put_X3_joined : GoodIn wsX6_put (va_wsS RX6 122 yX3_joined wsX3_joined) := goodIn_app (goodIn_of _ (by decide +kernel)) ggX6_put_X3_joined
set_option maxRecDepth 20000 in
theorem ggX6_put_X6_added : GoodIn wsX6_put wsX6_added := goodIn_r _ [23, 8, 1, 2, 24, 25, 26, 27, 28, 29, 30] (by decide +kernel) (by decide +kernel)
set_option maxRecDepth 20000 in
theorem gX6_put_X6_added : GoodIn wsX6_put (wsV RX6 56 RX6 yX6_added wsX6_added) := goodIn_app (goodIn_of _ (by decide +kernel)) ggX6_put_X6_added
theorem dX6_put_0 : decode cX6_put 0 = .ok (.aload_n 0, 1) := by decide +kernel
theorem dX6_put_1 : decode cX6_put 1 = .ok (.iload_n 1, 1) := by decide +kernel
theorem dX6_put_2 : decode cX6_put 2 = .ok (.invokevirtual 83, 3) := by decide +kernel
theorem dX6_put_5 : decode cX6_put 5 = .ok (.ifCond .eq 11, 3) := by decide +kernel
theorem dX6_put_8 : decode cX6_put 8 = .ok (.aload_n 0, 1) := by decide +kernel
theorem dX6_put_9 : decode cX6_put 9 = .ok (.iload_n 2, 1) := by decide +kernel
theorem dX6_put_10 : decode cX6_put 10 = .ok (.invokevirtual 83, 3) := by decide +kernel
theorem dX6_put_13 : decode cX6_put 13 = .ok (.ifCond .ne 5, 3) := by decide +kernel
theorem dX6_put_16 : decode cX6_put 16 = .ok (.iconst (-1), 1) := by decide +kernel
theorem dX6_put_17 : decode cX6_put 17 = .ok (.ireturn, 1) := by decide +kernel
theorem dX6_put_18 : decode cX6_put 18 = .ok (.aload_n 0, 1) := by decide +kernel
theorem dX6_put_19 : decode cX6_put 19 = .ok (.getfield 9, 3) := by decide +kernel
theorem dX6_put_22 : decode cX6_put 22 = .ok (.iload_n 1, 1) := by decide +kernel
theorem dX6_put_23 : decode cX6_put 23 = .ok (.iaload, 1) := by decide +kernel
theorem dX6_put_24 : decode cX6_put 24 = .ok (.aload_n 0, 1) := by decide +kernel
theorem dX6_put_25 : decode cX6_put 25 = .ok (.getfield 9, 3) := by decide +kernel
theorem dX6_put_28 : decode cX6_put 28 = .ok (.iload_n 2, 1) := by decide +kernel
theorem dX6_put_29 : decode cX6_put 29 = .ok (.iaload, 1) := by decide +kernel
theorem dX6_put_30 : decode cX6_put 30 = .ok (.iadd, 1) := by decide +kernel
theorem dX6_put_31 : decode cX6_put 31 = .ok (.istore_n 3, 1) := by decide +kernel
theorem dX6_put_32 : decode cX6_put 32 = .ok (.aload_n 0, 1) := by decide +kernel
theorem dX6_put_33 : decode cX6_put 33 = .ok (.iload_n 3, 1) := by decide +kernel
theorem dX6_put_34 : decode cX6_put 34 = .ok (.iconst 1, 1) := by decide +kernel
theorem dX6_put_35 : decode cX6_put 35 = .ok (.invokevirtual 52, 3) := by decide +kernel
theorem dX6_put_38 : decode cX6_put 38 = .ok (.ifCond .eq 32, 3) := by decide +kernel
theorem dX6_put_41 : decode cX6_put 41 = .ok (.aload_n 0, 1) := by decide +kernel
theorem dX6_put_42 : decode cX6_put 42 = .ok (.iload_n 3, 1) := by decide +kernel
theorem dX6_put_43 : decode cX6_put 43 = .ok (.aload_n 0, 1) := by decide +kernel
theorem dX6_put_44 : decode cX6_put 44 = .ok (.getfield 13, 3) := by decide +kernel
theorem dX6_put_47 : decode cX6_put 47 = .ok (.iload_n 1, 1) := by decide +kernel
theorem dX6_put_48 : decode cX6_put 48 = .ok (.laload, 1) := by decide +kernel
theorem dX6_put_49 : decode cX6_put 49 = .ok (.aload_n 0, 1) := by decide +kernel
theorem dX6_put_50 : decode cX6_put 50 = .ok (.getfield 9, 3) := by decide +kernel
theorem dX6_put_53 : decode cX6_put 53 = .ok (.iload_n 1, 1) := by decide +kernel
theorem dX6_put_54 : decode cX6_put 54 = .ok (.iaload, 1) := by decide +kernel
theorem dX6_put_55 : decode cX6_put 55 = .ok (.aload_n 0, 1) := by decide +kernel
theorem dX6_put_56 : decode cX6_put 56 = .ok (.getfield 13, 3) := by decide +kernel
theorem dX6_put_59 : decode cX6_put 59 = .ok (.iload_n 2, 1) := by decide +kernel
theorem dX6_put_60 : decode cX6_put 60 = .ok (.laload, 1) := by decide +kernel
theorem dX6_put_61 : decode cX6_put 61 = .ok (.invokestatic 122, 3) := by decide +kernel
theorem dX6_put_64 : decode cX6_put 64 = .ok (.invokevirtual 56, 3) := by decide +kernel
theorem dX6_put_67 : decode cX6_put 67 = .ok (.goto 5, 3) := by decide +kernel
theorem dX6_put_70 : decode cX6_put 70 = .ok (.bipush (-3), 2) := by decide +kernel
theorem dX6_put_72 : decode cX6_put 72 = .ok (.ireturn, 1) := by decide +kernel
set_option maxRecDepth 20000 in
theorem ggX6_weave_X6_areAlikeLong : GoodIn wsX6_weave wsX6_areAlikeLong := goodIn_r _ [7, 1, 8, 9, 10, 6, 11, 12, 13, 14, 15, 28, 29, 30, 31, 32, 33, 34] (by decide +kernel) (by decide +kernel)
set_option maxRecDepth 20000 in
theorem gX6_weave_X6_areAlikeLong : GoodIn wsX6_weave (wsV RX6 126 RX6 yX6_areAlikeLong wsX6_areAlikeLong) := goodIn_app (goodIn_of _ (by decide +kernel)) ggX6_weave_X6_areAlikeLong
set_option maxRecDepth 20000 in
theorem ggX6_weave_X6_fits : GoodIn wsX6_weave wsX6_fits := goodIn_r _ [19, 12, 28, 29, 30, 31, 32, 33, 34] (by decide +kernel) (by decide +kernel)
set_option maxRecDepth 20000 in
theorem gX6_weave_X6_fits : GoodIn wsX6_weave (wsV RX6 52 RX6 yX6_fits wsX6_fits) := goodIn_app (goodIn_of _ (by decide +kernel)) ggX6_weave_X6_fits
set_option maxRecDepth 20000 in
theorem ggX6_weave_X3_woven : GoodIn wsX6_weave wsX3_woven := goodIn_r _ [23] (by decide +kernel) (by decide +kernel)
set_option maxRecDepth 20000 in
theorem gX6_weave_X3_woven : GoodIn wsX6_weave (va_wsS RX6 129 yX3_woven wsX3_woven) := goodIn_app (goodIn_of _ (by decide +kernel)) ggX6_weave_X3_woven
set_option maxRecDepth 20000 in
theorem ggX6_weave_X6_added : GoodIn wsX6_weave wsX6_added := goodIn_r _ [27, 12, 1, 2, 28, 29, 30, 31, 32, 33, 34] (by decide +kernel) (by decide +kernel)
set_option maxRecDepth 20000 in
theorem gX6_weave_X6_added : GoodIn wsX6_weave (wsV RX6 56 RX6 yX6_added wsX6_added) := goodIn_app (goodIn_of _ (by decide +kernel)) ggX6_weave_X6_added
theorem dX6_weave_0 : decode cX6_weave 0 = .ok (.aload_n 0, 1) := by decide +kernel
theorem dX6_weave_1 : decode cX6_weave 1 = .ok (.iload_n 1, 1) := by decide +kernel
theorem dX6_weave_2 : decode cX6_weave 2 = .ok (.iload_n 2, 1) := by decide +kernel
theorem dX6_weave_3 : decode cX6_weave 3 = .ok (.invokevirtual 126, 3) := by decide +kernel
theorem dX6_weave_6 : decode cX6_weave 6 = .ok (.ifCond .ne 5, 3) := by decide +kernel
theorem dX6_weave_9 : decode cX6_weave 9 = .ok (.iconst (-1), 1) := by decide +kernel
theorem dX6_weave_10 : decode cX6_weave 10 = .ok (.ireturn, 1) := by decide +kernel
theorem dX6_weave_11 : decode cX6_weave 11 = .ok (.iconst 2, 1) := by decide +kernel
theorem dX6_weave_12 : decode cX6_weave 12 = .ok (.aload_n 0, 1) := by decide +kernel
theorem dX6_weave_13 : decode cX6_weave 13 = .ok (.getfield 9, 3) := by decide +kernel
theorem dX6_weave_16 : decode cX6_weave 16 = .ok (.iload_n 1, 1) := by decide +kernel
theorem dX6_weave_17 : decode cX6_weave 17 = .ok (.iaload, 1) := by decide +kernel
theorem dX6_weave_18 : decode cX6_weave 18 = .ok (.imul, 1) := by decide +kernel
theorem dX6_weave_19 : decode cX6_weave 19 = .ok (.istore_n 3, 1) := by decide +kernel
theorem dX6_weave_20 : decode cX6_weave 20 = .ok (.aload_n 0, 1) := by decide +kernel
theorem dX6_weave_21 : decode cX6_weave 21 = .ok (.iload_n 3, 1) := by decide +kernel
theorem dX6_weave_22 : decode cX6_weave 22 = .ok (.iconst 1, 1) := by decide +kernel
theorem dX6_weave_23 : decode cX6_weave 23 = .ok (.invokevirtual 52, 3) := by decide +kernel
theorem dX6_weave_26 : decode cX6_weave 26 = .ok (.ifCond .eq 32, 3) := by decide +kernel
theorem dX6_weave_29 : decode cX6_weave 29 = .ok (.aload_n 0, 1) := by decide +kernel
theorem dX6_weave_30 : decode cX6_weave 30 = .ok (.iload_n 3, 1) := by decide +kernel
theorem dX6_weave_31 : decode cX6_weave 31 = .ok (.aload_n 0, 1) := by decide +kernel
theorem dX6_weave_32 : decode cX6_weave 32 = .ok (.getfield 13, 3) := by decide +kernel
theorem dX6_weave_35 : decode cX6_weave 35 = .ok (.iload_n 1, 1) := by decide +kernel
theorem dX6_weave_36 : decode cX6_weave 36 = .ok (.laload, 1) := by decide +kernel
theorem dX6_weave_37 : decode cX6_weave 37 = .ok (.aload_n 0, 1) := by decide +kernel
theorem dX6_weave_38 : decode cX6_weave 38 = .ok (.getfield 13, 3) := by decide +kernel
theorem dX6_weave_41 : decode cX6_weave 41 = .ok (.iload_n 2, 1) := by decide +kernel
theorem dX6_weave_42 : decode cX6_weave 42 = .ok (.laload, 1) := by decide +kernel
theorem dX6_weave_43 : decode cX6_weave 43 = .ok (.aload_n 0, 1) := by decide +kernel
theorem dX6_weave_44 : decode cX6_weave 44 = .ok (.getfield 9, 3) := by decide +kernel
theorem dX6_weave_47 : decode cX6_weave 47 = .ok (.iload_n 1, 1) := by decide +kernel
theorem dX6_weave_48 : decode cX6_weave 48 = .ok (.iaload, 1) := by decide +kernel
theorem dX6_weave_49 : decode cX6_weave 49 = .ok (.invokestatic 129, 3) := by decide +kernel
theorem dX6_weave_52 : decode cX6_weave 52 = .ok (.invokevirtual 56, 3) := by decide +kernel
theorem dX6_weave_55 : decode cX6_weave 55 = .ok (.goto 5, 3) := by decide +kernel
theorem dX6_weave_58 : decode cX6_weave 58 = .ok (.bipush (-3), 2) := by decide +kernel
theorem dX6_weave_60 : decode cX6_weave 60 = .ok (.ireturn, 1) := by decide +kernel
set_option maxRecDepth 20000 in
theorem ggX6_times_X6_isRow : GoodIn wsX6_times wsX6_isRow := goodIn_r _ [7, 8, 9, 10, 6, 11, 33, 34, 35, 36, 37, 38, 39] (by decide +kernel) (by decide +kernel)
set_option maxRecDepth 20000 in
theorem gX6_times_X6_isRow : GoodIn wsX6_times (wsV RX6 83 RX6 yX6_isRow wsX6_isRow) := goodIn_app (goodIn_of _ (by decide +kernel)) ggX6_times_X6_isRow
set_option maxRecDepth 20000 in
theorem ggX6_times_X6_fits : GoodIn wsX6_times wsX6_fits := goodIn_r _ [15, 8, 33, 34, 35, 36, 37, 38, 39] (by decide +kernel) (by decide +kernel)
set_option maxRecDepth 20000 in
theorem gX6_times_X6_fits : GoodIn wsX6_times (wsV RX6 52 RX6 yX6_fits wsX6_fits) := goodIn_app (goodIn_of _ (by decide +kernel)) ggX6_times_X6_fits
set_option maxRecDepth 20000 in
theorem ggX6_times_X3_product : GoodIn wsX6_times wsX3_product := goodIn_r _ [19, 20, 21, 18, 22, 23, 24, 25, 26, 27, 28] (by decide +kernel) (by decide +kernel)
set_option maxRecDepth 20000 in
theorem gX6_times_X3_product : GoodIn wsX6_times (va_wsS RX6 133 yX3_product wsX3_product) := goodIn_app (goodIn_of _ (by decide +kernel)) ggX6_times_X3_product
set_option maxRecDepth 20000 in
theorem ggX6_times_X6_added : GoodIn wsX6_times wsX6_added := goodIn_r _ [32, 8, 1, 2, 33, 34, 35, 36, 37, 38, 39] (by decide +kernel) (by decide +kernel)
set_option maxRecDepth 20000 in
theorem gX6_times_X6_added : GoodIn wsX6_times (wsV RX6 56 RX6 yX6_added wsX6_added) := goodIn_app (goodIn_of _ (by decide +kernel)) ggX6_times_X6_added
theorem dX6_times_0 : decode cX6_times 0 = .ok (.aload_n 0, 1) := by decide +kernel
theorem dX6_times_1 : decode cX6_times 1 = .ok (.iload_n 1, 1) := by decide +kernel
theorem dX6_times_2 : decode cX6_times 2 = .ok (.invokevirtual 83, 3) := by decide +kernel
theorem dX6_times_5 : decode cX6_times 5 = .ok (.ifCond .eq 11, 3) := by decide +kernel
theorem dX6_times_8 : decode cX6_times 8 = .ok (.aload_n 0, 1) := by decide +kernel
theorem dX6_times_9 : decode cX6_times 9 = .ok (.iload_n 2, 1) := by decide +kernel
theorem dX6_times_10 : decode cX6_times 10 = .ok (.invokevirtual 83, 3) := by decide +kernel
theorem dX6_times_13 : decode cX6_times 13 = .ok (.ifCond .ne 5, 3) := by decide +kernel
theorem dX6_times_16 : decode cX6_times 16 = .ok (.iconst (-1), 1) := by decide +kernel
theorem dX6_times_17 : decode cX6_times 17 = .ok (.ireturn, 1) := by decide +kernel
theorem dX6_times_18 : decode cX6_times 18 = .ok (.aload_n 0, 1) := by decide +kernel
theorem dX6_times_19 : decode cX6_times 19 = .ok (.getfield 9, 3) := by decide +kernel
theorem dX6_times_22 : decode cX6_times 22 = .ok (.iload_n 1, 1) := by decide +kernel
theorem dX6_times_23 : decode cX6_times 23 = .ok (.iaload, 1) := by decide +kernel
theorem dX6_times_24 : decode cX6_times 24 = .ok (.aload_n 0, 1) := by decide +kernel
theorem dX6_times_25 : decode cX6_times 25 = .ok (.getfield 9, 3) := by decide +kernel
theorem dX6_times_28 : decode cX6_times 28 = .ok (.iload_n 2, 1) := by decide +kernel
theorem dX6_times_29 : decode cX6_times 29 = .ok (.iaload, 1) := by decide +kernel
theorem dX6_times_30 : decode cX6_times 30 = .ok (.imul, 1) := by decide +kernel
theorem dX6_times_31 : decode cX6_times 31 = .ok (.istore_n 3, 1) := by decide +kernel
theorem dX6_times_32 : decode cX6_times 32 = .ok (.aload_n 0, 1) := by decide +kernel
theorem dX6_times_33 : decode cX6_times 33 = .ok (.iload_n 3, 1) := by decide +kernel
theorem dX6_times_34 : decode cX6_times 34 = .ok (.iconst 1, 1) := by decide +kernel
theorem dX6_times_35 : decode cX6_times 35 = .ok (.invokevirtual 52, 3) := by decide +kernel
theorem dX6_times_38 : decode cX6_times 38 = .ok (.ifCond .eq 38, 3) := by decide +kernel
theorem dX6_times_41 : decode cX6_times 41 = .ok (.aload_n 0, 1) := by decide +kernel
theorem dX6_times_42 : decode cX6_times 42 = .ok (.iload_n 3, 1) := by decide +kernel
theorem dX6_times_43 : decode cX6_times 43 = .ok (.aload_n 0, 1) := by decide +kernel
theorem dX6_times_44 : decode cX6_times 44 = .ok (.getfield 13, 3) := by decide +kernel
theorem dX6_times_47 : decode cX6_times 47 = .ok (.iload_n 1, 1) := by decide +kernel
theorem dX6_times_48 : decode cX6_times 48 = .ok (.laload, 1) := by decide +kernel
theorem dX6_times_49 : decode cX6_times 49 = .ok (.aload_n 0, 1) := by decide +kernel
theorem dX6_times_50 : decode cX6_times 50 = .ok (.getfield 9, 3) := by decide +kernel
theorem dX6_times_53 : decode cX6_times 53 = .ok (.iload_n 1, 1) := by decide +kernel
theorem dX6_times_54 : decode cX6_times 54 = .ok (.iaload, 1) := by decide +kernel
theorem dX6_times_55 : decode cX6_times 55 = .ok (.aload_n 0, 1) := by decide +kernel
theorem dX6_times_56 : decode cX6_times 56 = .ok (.getfield 13, 3) := by decide +kernel
theorem dX6_times_59 : decode cX6_times 59 = .ok (.iload_n 2, 1) := by decide +kernel
theorem dX6_times_60 : decode cX6_times 60 = .ok (.laload, 1) := by decide +kernel
theorem dX6_times_61 : decode cX6_times 61 = .ok (.aload_n 0, 1) := by decide +kernel
theorem dX6_times_62 : decode cX6_times 62 = .ok (.getfield 9, 3) := by decide +kernel
theorem dX6_times_65 : decode cX6_times 65 = .ok (.iload_n 2, 1) := by decide +kernel
theorem dX6_times_66 : decode cX6_times 66 = .ok (.iaload, 1) := by decide +kernel
theorem dX6_times_67 : decode cX6_times 67 = .ok (.invokestatic 133, 3) := by decide +kernel
theorem dX6_times_70 : decode cX6_times 70 = .ok (.invokevirtual 56, 3) := by decide +kernel
theorem dX6_times_73 : decode cX6_times 73 = .ok (.goto 5, 3) := by decide +kernel
theorem dX6_times_76 : decode cX6_times 76 = .ok (.bipush (-3), 2) := by decide +kernel
theorem dX6_times_78 : decode cX6_times 78 = .ok (.ireturn, 1) := by decide +kernel
set_option maxRecDepth 20000 in
theorem ggX6_cancels_X6_areAlikeLong : GoodIn wsX6_cancels wsX6_areAlikeLong := goodIn_r _ [7, 2, 8, 9, 10, 6, 11, 12, 13, 14, 15, 33, 34, 35, 36, 37, 38, 39] (by decide +kernel) (by decide +kernel)
set_option maxRecDepth 20000 in
theorem gX6_cancels_X6_areAlikeLong : GoodIn wsX6_cancels (wsV RX6 126 RX6 yX6_areAlikeLong wsX6_areAlikeLong) := goodIn_app (goodIn_of _ (by decide +kernel)) ggX6_cancels_X6_areAlikeLong
set_option maxRecDepth 20000 in
theorem ggX6_cancels_X3_firstLeftOpen : GoodIn wsX6_cancels wsX3_firstLeftOpen := goodIn_r _ [19, 20, 21, 18, 22, 23, 24, 25, 26, 27, 28, 29, 30, 31, 32] (by decide +kernel) (by decide +kernel)
set_option maxRecDepth 20000 in
theorem gX6_cancels_X3_firstLeftOpen : GoodIn wsX6_cancels (va_wsS RX6 137 yX3_firstLeftOpen wsX3_firstLeftOpen) := goodIn_app (goodIn_of _ (by decide +kernel)) ggX6_cancels_X3_firstLeftOpen
theorem dX6_cancels_0 : decode cX6_cancels 0 = .ok (.aload_n 0, 1) := by decide +kernel
theorem dX6_cancels_1 : decode cX6_cancels 1 = .ok (.iload_n 1, 1) := by decide +kernel
theorem dX6_cancels_2 : decode cX6_cancels 2 = .ok (.iload_n 2, 1) := by decide +kernel
theorem dX6_cancels_3 : decode cX6_cancels 3 = .ok (.invokevirtual 126, 3) := by decide +kernel
theorem dX6_cancels_6 : decode cX6_cancels 6 = .ok (.ifCond .eq 27, 3) := by decide +kernel
theorem dX6_cancels_9 : decode cX6_cancels 9 = .ok (.aload_n 0, 1) := by decide +kernel
theorem dX6_cancels_10 : decode cX6_cancels 10 = .ok (.getfield 13, 3) := by decide +kernel
theorem dX6_cancels_13 : decode cX6_cancels 13 = .ok (.iload_n 1, 1) := by decide +kernel
theorem dX6_cancels_14 : decode cX6_cancels 14 = .ok (.laload, 1) := by decide +kernel
theorem dX6_cancels_15 : decode cX6_cancels 15 = .ok (.aload_n 0, 1) := by decide +kernel
theorem dX6_cancels_16 : decode cX6_cancels 16 = .ok (.getfield 13, 3) := by decide +kernel
theorem dX6_cancels_19 : decode cX6_cancels 19 = .ok (.iload_n 2, 1) := by decide +kernel
theorem dX6_cancels_20 : decode cX6_cancels 20 = .ok (.laload, 1) := by decide +kernel
theorem dX6_cancels_21 : decode cX6_cancels 21 = .ok (.aload_n 0, 1) := by decide +kernel
theorem dX6_cancels_22 : decode cX6_cancels 22 = .ok (.getfield 9, 3) := by decide +kernel
theorem dX6_cancels_25 : decode cX6_cancels 25 = .ok (.iload_n 1, 1) := by decide +kernel
theorem dX6_cancels_26 : decode cX6_cancels 26 = .ok (.iaload, 1) := by decide +kernel
theorem dX6_cancels_27 : decode cX6_cancels 27 = .ok (.invokestatic 137, 3) := by decide +kernel
theorem dX6_cancels_30 : decode cX6_cancels 30 = .ok (.goto 4, 3) := by decide +kernel
theorem dX6_cancels_33 : decode cX6_cancels 33 = .ok (.iconst (-1), 1) := by decide +kernel
theorem dX6_cancels_34 : decode cX6_cancels 34 = .ok (.ireturn, 1) := by decide +kernel
set_option maxRecDepth 20000 in
theorem ggX6_four_X6_areAlikeLong : GoodIn wsX6_four wsX6_areAlikeLong := goodIn_r _ [7, 1, 8, 9, 10, 6, 11, 12, 13, 14, 15, 30, 31, 32, 33, 34, 35, 36] (by decide +kernel) (by decide +kernel)
set_option maxRecDepth 20000 in
theorem gX6_four_X6_areAlikeLong : GoodIn wsX6_four (wsV RX6 126 RX6 yX6_areAlikeLong wsX6_areAlikeLong) := goodIn_app (goodIn_of _ (by decide +kernel)) ggX6_four_X6_areAlikeLong
set_option maxRecDepth 20000 in
theorem ggX6_four_X3_roundSum : GoodIn wsX6_four wsX3_roundSum := goodIn_r _ [19, 20, 21, 18, 22, 23, 24, 25, 26, 27, 28, 29] (by decide +kernel) (by decide +kernel)
set_option maxRecDepth 20000 in
theorem gX6_four_X3_roundSum : GoodIn wsX6_four (va_wsS RX6 96 yX3_roundSum wsX3_roundSum) := goodIn_app (goodIn_of _ (by decide +kernel)) ggX6_four_X3_roundSum
theorem dX6_four_0 : decode cX6_four 0 = .ok (.aload_n 0, 1) := by decide +kernel
theorem dX6_four_1 : decode cX6_four 1 = .ok (.iload_n 1, 1) := by decide +kernel
theorem dX6_four_2 : decode cX6_four 2 = .ok (.iload_n 2, 1) := by decide +kernel
theorem dX6_four_3 : decode cX6_four 3 = .ok (.invokevirtual 126, 3) := by decide +kernel
theorem dX6_four_6 : decode cX6_four 6 = .ok (.ifCond .eq 22, 3) := by decide +kernel
theorem dX6_four_9 : decode cX6_four 9 = .ok (.aload_n 0, 1) := by decide +kernel
theorem dX6_four_10 : decode cX6_four 10 = .ok (.iload_n 2, 1) := by decide +kernel
theorem dX6_four_11 : decode cX6_four 11 = .ok (.iload_n 3, 1) := by decide +kernel
theorem dX6_four_12 : decode cX6_four 12 = .ok (.invokevirtual 126, 3) := by decide +kernel
theorem dX6_four_15 : decode cX6_four 15 = .ok (.ifCond .eq 13, 3) := by decide +kernel
theorem dX6_four_18 : decode cX6_four 18 = .ok (.aload_n 0, 1) := by decide +kernel
theorem dX6_four_19 : decode cX6_four 19 = .ok (.iload_n 3, 1) := by decide +kernel
theorem dX6_four_20 : decode cX6_four 20 = .ok (.iload 4, 2) := by decide +kernel
theorem dX6_four_22 : decode cX6_four 22 = .ok (.invokevirtual 126, 3) := by decide +kernel
theorem dX6_four_25 : decode cX6_four 25 = .ok (.ifCond .ne 5, 3) := by decide +kernel
theorem dX6_four_28 : decode cX6_four 28 = .ok (.iconst (-1), 1) := by decide +kernel
theorem dX6_four_29 : decode cX6_four 29 = .ok (.ireturn, 1) := by decide +kernel
theorem dX6_four_30 : decode cX6_four 30 = .ok (.aload_n 0, 1) := by decide +kernel
theorem dX6_four_31 : decode cX6_four 31 = .ok (.getfield 9, 3) := by decide +kernel
theorem dX6_four_34 : decode cX6_four 34 = .ok (.iload_n 1, 1) := by decide +kernel
theorem dX6_four_35 : decode cX6_four 35 = .ok (.iaload, 1) := by decide +kernel
theorem dX6_four_36 : decode cX6_four 36 = .ok (.istore 5, 2) := by decide +kernel
theorem dX6_four_38 : decode cX6_four 38 = .ok (.iconst 1, 1) := by decide +kernel
theorem dX6_four_39 : decode cX6_four 39 = .ok (.istore 6, 2) := by decide +kernel
theorem dX6_four_41 : decode cX6_four 41 = .ok (.iload 6, 2) := by decide +kernel
theorem dX6_four_43 : decode cX6_four 43 = .ok (.iload 5, 2) := by decide +kernel
theorem dX6_four_45 : decode cX6_four 45 = .ok (.if_icmp .ge 79, 3) := by decide +kernel
theorem dX6_four_48 : decode cX6_four 48 = .ok (.aload_n 0, 1) := by decide +kernel
theorem dX6_four_49 : decode cX6_four 49 = .ok (.getfield 13, 3) := by decide +kernel
theorem dX6_four_52 : decode cX6_four 52 = .ok (.iload_n 1, 1) := by decide +kernel
theorem dX6_four_53 : decode cX6_four 53 = .ok (.laload, 1) := by decide +kernel
theorem dX6_four_54 : decode cX6_four 54 = .ok (.iload 5, 2) := by decide +kernel
theorem dX6_four_56 : decode cX6_four 56 = .ok (.iload 6, 2) := by decide +kernel
theorem dX6_four_58 : decode cX6_four 58 = .ok (.invokestatic 96, 3) := by decide +kernel
theorem dX6_four_61 : decode cX6_four 61 = .ok (.aload_n 0, 1) := by decide +kernel
theorem dX6_four_62 : decode cX6_four 62 = .ok (.getfield 13, 3) := by decide +kernel
theorem dX6_four_65 : decode cX6_four 65 = .ok (.iload_n 2, 1) := by decide +kernel
theorem dX6_four_66 : decode cX6_four 66 = .ok (.laload, 1) := by decide +kernel
theorem dX6_four_67 : decode cX6_four 67 = .ok (.iload 5, 2) := by decide +kernel
theorem dX6_four_69 : decode cX6_four 69 = .ok (.iload 6, 2) := by decide +kernel
theorem dX6_four_71 : decode cX6_four 71 = .ok (.invokestatic 96, 3) := by decide +kernel
theorem dX6_four_74 : decode cX6_four 74 = .ok (.iadd, 1) := by decide +kernel
theorem dX6_four_75 : decode cX6_four 75 = .ok (.istore 7, 2) := by decide +kernel
theorem dX6_four_77 : decode cX6_four 77 = .ok (.aload_n 0, 1) := by decide +kernel
theorem dX6_four_78 : decode cX6_four 78 = .ok (.getfield 13, 3) := by decide +kernel
theorem dX6_four_81 : decode cX6_four 81 = .ok (.iload_n 3, 1) := by decide +kernel
theorem dX6_four_82 : decode cX6_four 82 = .ok (.laload, 1) := by decide +kernel
theorem dX6_four_83 : decode cX6_four 83 = .ok (.iload 5, 2) := by decide +kernel
theorem dX6_four_85 : decode cX6_four 85 = .ok (.iload 6, 2) := by decide +kernel
theorem dX6_four_87 : decode cX6_four 87 = .ok (.invokestatic 96, 3) := by decide +kernel
theorem dX6_four_90 : decode cX6_four 90 = .ok (.aload_n 0, 1) := by decide +kernel
theorem dX6_four_91 : decode cX6_four 91 = .ok (.getfield 13, 3) := by decide +kernel
theorem dX6_four_94 : decode cX6_four 94 = .ok (.iload 4, 2) := by decide +kernel
theorem dX6_four_96 : decode cX6_four 96 = .ok (.laload, 1) := by decide +kernel
theorem dX6_four_97 : decode cX6_four 97 = .ok (.iload 5, 2) := by decide +kernel
theorem dX6_four_99 : decode cX6_four 99 = .ok (.iload 6, 2) := by decide +kernel
theorem dX6_four_101 : decode cX6_four 101 = .ok (.invokestatic 96, 3) := by decide +kernel
theorem dX6_four_104 : decode cX6_four 104 = .ok (.iadd, 1) := by decide +kernel
theorem dX6_four_105 : decode cX6_four 105 = .ok (.istore 8, 2) := by decide +kernel
theorem dX6_four_107 : decode cX6_four 107 = .ok (.iload 7, 2) := by decide +kernel
theorem dX6_four_109 : decode cX6_four 109 = .ok (.iload 8, 2) := by decide +kernel
theorem dX6_four_111 : decode cX6_four 111 = .ok (.iadd, 1) := by decide +kernel
theorem dX6_four_112 : decode cX6_four 112 = .ok (.ifCond .eq 6, 3) := by decide +kernel
theorem dX6_four_115 : decode cX6_four 115 = .ok (.iload 6, 2) := by decide +kernel
theorem dX6_four_117 : decode cX6_four 117 = .ok (.ireturn, 1) := by decide +kernel
theorem dX6_four_118 : decode cX6_four 118 = .ok (.iinc 6 1, 3) := by decide +kernel
theorem dX6_four_121 : decode cX6_four 121 = .ok (.goto (-80), 3) := by decide +kernel
theorem dX6_four_124 : decode cX6_four 124 = .ok (.iconst 0, 1) := by decide +kernel
theorem dX6_four_125 : decode cX6_four 125 = .ok (.ireturn, 1) := by decide +kernel
set_option maxRecDepth 20000 in
theorem ggX6_doubled_X6_areAlikeLong : GoodIn wsX6_doubled wsX6_areAlikeLong := goodIn_r _ [7, 1, 8, 9, 10, 6, 11, 12, 13, 14, 15, 34, 35, 36, 37, 38, 39, 40] (by decide +kernel) (by decide +kernel)
set_option maxRecDepth 20000 in
theorem gX6_doubled_X6_areAlikeLong : GoodIn wsX6_doubled (wsV RX6 126 RX6 yX6_areAlikeLong wsX6_areAlikeLong) := goodIn_app (goodIn_of _ (by decide +kernel)) ggX6_doubled_X6_areAlikeLong
set_option maxRecDepth 20000 in
theorem ggX6_doubled_X6_fits : GoodIn wsX6_doubled wsX6_fits := goodIn_r _ [19, 12, 34, 35, 36, 37, 38, 39, 40] (by decide +kernel) (by decide +kernel)
set_option maxRecDepth 20000 in
theorem gX6_doubled_X6_fits : GoodIn wsX6_doubled (wsV RX6 52 RX6 yX6_fits wsX6_fits) := goodIn_app (goodIn_of _ (by decide +kernel)) ggX6_doubled_X6_fits
set_option maxRecDepth 20000 in
theorem ggX6_doubled_X3_joined : GoodIn wsX6_doubled wsX3_joined := goodIn_r _ [23] (by decide +kernel) (by decide +kernel)
set_option maxRecDepth 20000 in
theorem gX6_doubled_X3_joined : GoodIn wsX6_doubled (va_wsS RX6 122 yX3_joined wsX3_joined) := goodIn_app (goodIn_of _ (by decide +kernel)) ggX6_doubled_X3_joined
set_option maxRecDepth 20000 in
theorem ggX6_doubled_X6_added : GoodIn wsX6_doubled wsX6_added := goodIn_r _ [27, 12, 1, 2, 34, 35, 36, 37, 38, 39, 40] (by decide +kernel) (by decide +kernel)
set_option maxRecDepth 20000 in
theorem gX6_doubled_X6_added : GoodIn wsX6_doubled (wsV RX6 56 RX6 yX6_added wsX6_added) := goodIn_app (goodIn_of _ (by decide +kernel)) ggX6_doubled_X6_added
set_option maxRecDepth 20000 in
theorem ggX6_doubled_X3_opposite : GoodIn wsX6_doubled wsX3_opposite := goodIn_r _ [30, 31, 32, 22, 33] (by decide +kernel) (by decide +kernel)
set_option maxRecDepth 20000 in
theorem gX6_doubled_X3_opposite : GoodIn wsX6_doubled (va_wsS RX6 141 yX3_opposite wsX3_opposite) := goodIn_app (goodIn_of _ (by decide +kernel)) ggX6_doubled_X3_opposite
theorem dX6_doubled_0 : decode cX6_doubled 0 = .ok (.aload_n 0, 1) := by decide +kernel
theorem dX6_doubled_1 : decode cX6_doubled 1 = .ok (.iload_n 1, 1) := by decide +kernel
theorem dX6_doubled_2 : decode cX6_doubled 2 = .ok (.iload_n 2, 1) := by decide +kernel
theorem dX6_doubled_3 : decode cX6_doubled 3 = .ok (.invokevirtual 126, 3) := by decide +kernel
theorem dX6_doubled_6 : decode cX6_doubled 6 = .ok (.ifCond .ne 5, 3) := by decide +kernel
theorem dX6_doubled_9 : decode cX6_doubled 9 = .ok (.iconst (-1), 1) := by decide +kernel
theorem dX6_doubled_10 : decode cX6_doubled 10 = .ok (.ireturn, 1) := by decide +kernel
theorem dX6_doubled_11 : decode cX6_doubled 11 = .ok (.aload_n 0, 1) := by decide +kernel
theorem dX6_doubled_12 : decode cX6_doubled 12 = .ok (.getfield 9, 3) := by decide +kernel
theorem dX6_doubled_15 : decode cX6_doubled 15 = .ok (.iload_n 1, 1) := by decide +kernel
theorem dX6_doubled_16 : decode cX6_doubled 16 = .ok (.iaload, 1) := by decide +kernel
theorem dX6_doubled_17 : decode cX6_doubled 17 = .ok (.istore_n 3, 1) := by decide +kernel
theorem dX6_doubled_18 : decode cX6_doubled 18 = .ok (.aload_n 0, 1) := by decide +kernel
theorem dX6_doubled_19 : decode cX6_doubled 19 = .ok (.iconst 2, 1) := by decide +kernel
theorem dX6_doubled_20 : decode cX6_doubled 20 = .ok (.iload_n 3, 1) := by decide +kernel
theorem dX6_doubled_21 : decode cX6_doubled 21 = .ok (.imul, 1) := by decide +kernel
theorem dX6_doubled_22 : decode cX6_doubled 22 = .ok (.iconst 2, 1) := by decide +kernel
theorem dX6_doubled_23 : decode cX6_doubled 23 = .ok (.invokevirtual 52, 3) := by decide +kernel
theorem dX6_doubled_26 : decode cX6_doubled 26 = .ok (.ifCond .ne 6, 3) := by decide +kernel
theorem dX6_doubled_29 : decode cX6_doubled 29 = .ok (.bipush (-3), 2) := by decide +kernel
theorem dX6_doubled_31 : decode cX6_doubled 31 = .ok (.ireturn, 1) := by decide +kernel
theorem dX6_doubled_32 : decode cX6_doubled 32 = .ok (.aload_n 0, 1) := by decide +kernel
theorem dX6_doubled_33 : decode cX6_doubled 33 = .ok (.iconst 2, 1) := by decide +kernel
theorem dX6_doubled_34 : decode cX6_doubled 34 = .ok (.iload_n 3, 1) := by decide +kernel
theorem dX6_doubled_35 : decode cX6_doubled 35 = .ok (.imul, 1) := by decide +kernel
theorem dX6_doubled_36 : decode cX6_doubled 36 = .ok (.aload_n 0, 1) := by decide +kernel
theorem dX6_doubled_37 : decode cX6_doubled 37 = .ok (.getfield 13, 3) := by decide +kernel
theorem dX6_doubled_40 : decode cX6_doubled 40 = .ok (.iload_n 1, 1) := by decide +kernel
theorem dX6_doubled_41 : decode cX6_doubled 41 = .ok (.laload, 1) := by decide +kernel
theorem dX6_doubled_42 : decode cX6_doubled 42 = .ok (.iload_n 3, 1) := by decide +kernel
theorem dX6_doubled_43 : decode cX6_doubled 43 = .ok (.aload_n 0, 1) := by decide +kernel
theorem dX6_doubled_44 : decode cX6_doubled 44 = .ok (.getfield 13, 3) := by decide +kernel
theorem dX6_doubled_47 : decode cX6_doubled 47 = .ok (.iload_n 2, 1) := by decide +kernel
theorem dX6_doubled_48 : decode cX6_doubled 48 = .ok (.laload, 1) := by decide +kernel
theorem dX6_doubled_49 : decode cX6_doubled 49 = .ok (.invokestatic 122, 3) := by decide +kernel
theorem dX6_doubled_52 : decode cX6_doubled 52 = .ok (.invokevirtual 56, 3) := by decide +kernel
theorem dX6_doubled_55 : decode cX6_doubled 55 = .ok (.istore 4, 2) := by decide +kernel
theorem dX6_doubled_57 : decode cX6_doubled 57 = .ok (.aload_n 0, 1) := by decide +kernel
theorem dX6_doubled_58 : decode cX6_doubled 58 = .ok (.iconst 2, 1) := by decide +kernel
theorem dX6_doubled_59 : decode cX6_doubled 59 = .ok (.iload_n 3, 1) := by decide +kernel
theorem dX6_doubled_60 : decode cX6_doubled 60 = .ok (.imul, 1) := by decide +kernel
theorem dX6_doubled_61 : decode cX6_doubled 61 = .ok (.aload_n 0, 1) := by decide +kernel
theorem dX6_doubled_62 : decode cX6_doubled 62 = .ok (.getfield 13, 3) := by decide +kernel
theorem dX6_doubled_65 : decode cX6_doubled 65 = .ok (.iload_n 1, 1) := by decide +kernel
theorem dX6_doubled_66 : decode cX6_doubled 66 = .ok (.laload, 1) := by decide +kernel
theorem dX6_doubled_67 : decode cX6_doubled 67 = .ok (.iload_n 3, 1) := by decide +kernel
theorem dX6_doubled_68 : decode cX6_doubled 68 = .ok (.aload_n 0, 1) := by decide +kernel
theorem dX6_doubled_69 : decode cX6_doubled 69 = .ok (.getfield 13, 3) := by decide +kernel
theorem dX6_doubled_72 : decode cX6_doubled 72 = .ok (.iload_n 2, 1) := by decide +kernel
theorem dX6_doubled_73 : decode cX6_doubled 73 = .ok (.laload, 1) := by decide +kernel
theorem dX6_doubled_74 : decode cX6_doubled 74 = .ok (.iload_n 3, 1) := by decide +kernel
theorem dX6_doubled_75 : decode cX6_doubled 75 = .ok (.invokestatic 141, 3) := by decide +kernel
theorem dX6_doubled_78 : decode cX6_doubled 78 = .ok (.invokestatic 122, 3) := by decide +kernel
theorem dX6_doubled_81 : decode cX6_doubled 81 = .ok (.invokevirtual 56, 3) := by decide +kernel
theorem dX6_doubled_84 : decode cX6_doubled 84 = .ok (.pop, 1) := by decide +kernel
theorem dX6_doubled_85 : decode cX6_doubled 85 = .ok (.iload 4, 2) := by decide +kernel
theorem dX6_doubled_87 : decode cX6_doubled 87 = .ok (.ireturn, 1) := by decide +kernel
set_option maxRecDepth 20000 in
theorem ggX6_told_X6_within : GoodIn wsX6_told wsX6_within := goodIn_r _ [4] (by decide +kernel) (by decide +kernel)
set_option maxRecDepth 20000 in
theorem gX6_told_X6_within : GoodIn wsX6_told (va_wsS RX6 42 yX6_within wsX6_within) := goodIn_app (goodIn_of _ (by decide +kernel)) ggX6_told_X6_within
set_option maxRecDepth 20000 in
theorem ggX6_told_X5_seedOf : GoodIn wsX6_told wsX5_seedOf := goodIn_r _ [8, 9, 10, 11, 12, 13, 14, 15] (by decide +kernel) (by decide +kernel)
set_option maxRecDepth 20000 in
theorem gX6_told_X5_seedOf : GoodIn wsX6_told (va_wsS RX6 144 yX5_seedOf wsX5_seedOf) := goodIn_app (goodIn_of _ (by decide +kernel)) ggX6_told_X5_seedOf
set_option maxRecDepth 20000 in
theorem ggX6_told_X6_fits : GoodIn wsX6_told wsX6_fits := goodIn_r _ [19, 20, 47, 48, 49, 50, 51, 52, 53] (by decide +kernel) (by decide +kernel)
set_option maxRecDepth 20000 in
theorem gX6_told_X6_fits : GoodIn wsX6_told (wsV RX6 52 RX6 yX6_fits wsX6_fits) := goodIn_app (goodIn_of _ (by decide +kernel)) ggX6_told_X6_fits
set_option maxRecDepth 20000 in
theorem ggX6_told_X5_firstOfSeed : GoodIn wsX6_told wsX5_firstOfSeed := goodIn_r _ [23, 24, 25] (by decide +kernel) (by decide +kernel)
set_option maxRecDepth 20000 in
theorem gX6_told_X5_firstOfSeed : GoodIn wsX6_told (va_wsS RX6 149 yX5_firstOfSeed wsX5_firstOfSeed) := goodIn_app (goodIn_of _ (by decide +kernel)) ggX6_told_X5_firstOfSeed
set_option maxRecDepth 20000 in
theorem ggX6_told_X5_secondOfSeed : GoodIn wsX6_told wsX5_secondOfSeed := goodIn_r _ [28, 29, 30] (by decide +kernel) (by decide +kernel)
set_option maxRecDepth 20000 in
theorem gX6_told_X5_secondOfSeed : GoodIn wsX6_told (va_wsS RX6 152 yX5_secondOfSeed wsX5_secondOfSeed) := goodIn_app (goodIn_of _ (by decide +kernel)) ggX6_told_X5_secondOfSeed
set_option maxRecDepth 20000 in
theorem ggX6_told_X3_joined : GoodIn wsX6_told wsX3_joined := goodIn_r _ [34] (by decide +kernel) (by decide +kernel)
set_option maxRecDepth 20000 in
theorem gX6_told_X3_joined : GoodIn wsX6_told (va_wsS RX6 122 yX3_joined wsX3_joined) := goodIn_app (goodIn_of _ (by decide +kernel)) ggX6_told_X3_joined
set_option maxRecDepth 20000 in
theorem ggX6_told_X3_opposite : GoodIn wsX6_told wsX3_opposite := goodIn_r _ [37, 38, 39, 33, 40] (by decide +kernel) (by decide +kernel)
set_option maxRecDepth 20000 in
theorem gX6_told_X3_opposite : GoodIn wsX6_told (va_wsS RX6 141 yX3_opposite wsX3_opposite) := goodIn_app (goodIn_of _ (by decide +kernel)) ggX6_told_X3_opposite
set_option maxRecDepth 20000 in
theorem ggX6_told_X6_added : GoodIn wsX6_told wsX6_added := goodIn_r _ [44, 20, 45, 46, 47, 48, 49, 50, 51, 52, 53] (by decide +kernel) (by decide +kernel)
set_option maxRecDepth 20000 in
theorem gX6_told_X6_added : GoodIn wsX6_told (wsV RX6 56 RX6 yX6_added wsX6_added) := goodIn_app (goodIn_of _ (by decide +kernel)) ggX6_told_X6_added
theorem dX6_told_0 : decode cX6_told 0 = .ok (.iload_n 1, 1) := by decide +kernel
theorem dX6_told_1 : decode cX6_told 1 = .ok (.iconst 1, 1) := by decide +kernel
theorem dX6_told_2 : decode cX6_told 2 = .ok (.bipush 32, 2) := by decide +kernel
theorem dX6_told_4 : decode cX6_told 4 = .ok (.invokestatic 42, 3) := by decide +kernel
theorem dX6_told_7 : decode cX6_told 7 = .ok (.ifCond .ne 5, 3) := by decide +kernel
theorem dX6_told_10 : decode cX6_told 10 = .ok (.iconst (-1), 1) := by decide +kernel
theorem dX6_told_11 : decode cX6_told 11 = .ok (.ireturn, 1) := by decide +kernel
theorem dX6_told_12 : decode cX6_told 12 = .ok (.iload_n 1, 1) := by decide +kernel
theorem dX6_told_13 : decode cX6_told 13 = .ok (.invokestatic 144, 3) := by decide +kernel
theorem dX6_told_16 : decode cX6_told 16 = .ok (.istore_n 2, 1) := by decide +kernel
theorem dX6_told_17 : decode cX6_told 17 = .ok (.iload_n 2, 1) := by decide +kernel
theorem dX6_told_18 : decode cX6_told 18 = .ok (.ifCond .ne 6, 3) := by decide +kernel
theorem dX6_told_21 : decode cX6_told 21 = .ok (.bipush (-4), 2) := by decide +kernel
theorem dX6_told_23 : decode cX6_told 23 = .ok (.ireturn, 1) := by decide +kernel
theorem dX6_told_24 : decode cX6_told 24 = .ok (.aload_n 0, 1) := by decide +kernel
theorem dX6_told_25 : decode cX6_told 25 = .ok (.iload_n 1, 1) := by decide +kernel
theorem dX6_told_26 : decode cX6_told 26 = .ok (.iconst 2, 1) := by decide +kernel
theorem dX6_told_27 : decode cX6_told 27 = .ok (.invokevirtual 52, 3) := by decide +kernel
theorem dX6_told_30 : decode cX6_told 30 = .ok (.ifCond .ne 6, 3) := by decide +kernel
theorem dX6_told_33 : decode cX6_told 33 = .ok (.bipush (-3), 2) := by decide +kernel
theorem dX6_told_35 : decode cX6_told 35 = .ok (.ireturn, 1) := by decide +kernel
theorem dX6_told_36 : decode cX6_told 36 = .ok (.iload_n 2, 1) := by decide +kernel
theorem dX6_told_37 : decode cX6_told 37 = .ok (.invokestatic 149, 3) := by decide +kernel
theorem dX6_told_40 : decode cX6_told 40 = .ok (.lstore_n 3, 1) := by decide +kernel
theorem dX6_told_41 : decode cX6_told 41 = .ok (.iload_n 2, 1) := by decide +kernel
theorem dX6_told_42 : decode cX6_told 42 = .ok (.invokestatic 152, 3) := by decide +kernel
theorem dX6_told_45 : decode cX6_told 45 = .ok (.lstore 5, 2) := by decide +kernel
theorem dX6_told_47 : decode cX6_told 47 = .ok (.iload_n 2, 1) := by decide +kernel
theorem dX6_told_48 : decode cX6_told 48 = .ok (.istore 7, 2) := by decide +kernel
theorem dX6_told_50 : decode cX6_told 50 = .ok (.iload 7, 2) := by decide +kernel
theorem dX6_told_52 : decode cX6_told 52 = .ok (.iload_n 1, 1) := by decide +kernel
theorem dX6_told_53 : decode cX6_told 53 = .ok (.if_icmp .ge 40, 3) := by decide +kernel
theorem dX6_told_56 : decode cX6_told 56 = .ok (.lload_n 3, 1) := by decide +kernel
theorem dX6_told_57 : decode cX6_told 57 = .ok (.iload 7, 2) := by decide +kernel
theorem dX6_told_59 : decode cX6_told 59 = .ok (.lload 5, 2) := by decide +kernel
theorem dX6_told_61 : decode cX6_told 61 = .ok (.invokestatic 122, 3) := by decide +kernel
theorem dX6_told_64 : decode cX6_told 64 = .ok (.lstore 8, 2) := by decide +kernel
theorem dX6_told_66 : decode cX6_told 66 = .ok (.lload_n 3, 1) := by decide +kernel
theorem dX6_told_67 : decode cX6_told 67 = .ok (.iload 7, 2) := by decide +kernel
theorem dX6_told_69 : decode cX6_told 69 = .ok (.lload 5, 2) := by decide +kernel
theorem dX6_told_71 : decode cX6_told 71 = .ok (.iload 7, 2) := by decide +kernel
theorem dX6_told_73 : decode cX6_told 73 = .ok (.invokestatic 141, 3) := by decide +kernel
theorem dX6_told_76 : decode cX6_told 76 = .ok (.invokestatic 122, 3) := by decide +kernel
theorem dX6_told_79 : decode cX6_told 79 = .ok (.lstore 5, 2) := by decide +kernel
theorem dX6_told_81 : decode cX6_told 81 = .ok (.lload 8, 2) := by decide +kernel
theorem dX6_told_83 : decode cX6_told 83 = .ok (.lstore_n 3, 1) := by decide +kernel
theorem dX6_told_84 : decode cX6_told 84 = .ok (.iconst 2, 1) := by decide +kernel
theorem dX6_told_85 : decode cX6_told 85 = .ok (.iload 7, 2) := by decide +kernel
theorem dX6_told_87 : decode cX6_told 87 = .ok (.imul, 1) := by decide +kernel
theorem dX6_told_88 : decode cX6_told 88 = .ok (.istore 7, 2) := by decide +kernel
theorem dX6_told_90 : decode cX6_told 90 = .ok (.goto (-40), 3) := by decide +kernel
theorem dX6_told_93 : decode cX6_told 93 = .ok (.aload_n 0, 1) := by decide +kernel
theorem dX6_told_94 : decode cX6_told 94 = .ok (.iload_n 1, 1) := by decide +kernel
theorem dX6_told_95 : decode cX6_told 95 = .ok (.lload_n 3, 1) := by decide +kernel
theorem dX6_told_96 : decode cX6_told 96 = .ok (.invokevirtual 56, 3) := by decide +kernel
theorem dX6_told_99 : decode cX6_told 99 = .ok (.istore 7, 2) := by decide +kernel
theorem dX6_told_101 : decode cX6_told 101 = .ok (.aload_n 0, 1) := by decide +kernel
theorem dX6_told_102 : decode cX6_told 102 = .ok (.iload_n 1, 1) := by decide +kernel
theorem dX6_told_103 : decode cX6_told 103 = .ok (.lload 5, 2) := by decide +kernel
theorem dX6_told_105 : decode cX6_told 105 = .ok (.invokevirtual 56, 3) := by decide +kernel
theorem dX6_told_108 : decode cX6_told 108 = .ok (.pop, 1) := by decide +kernel
theorem dX6_told_109 : decode cX6_told 109 = .ok (.iload 7, 2) := by decide +kernel
theorem dX6_told_111 : decode cX6_told 111 = .ok (.ireturn, 1) := by decide +kernel
set_option maxRecDepth 20000 in
theorem ggX6_why_X6_within : GoodIn wsX6_why wsX6_within := goodIn_r _ [5] (by decide +kernel) (by decide +kernel)
set_option maxRecDepth 20000 in
theorem gX6_why_X6_within : GoodIn wsX6_why (va_wsS RX6 42 yX6_within wsX6_within) := goodIn_app (goodIn_of _ (by decide +kernel)) ggX6_why_X6_within
set_option maxRecDepth 20000 in
theorem ggX6_why_X4_rootOf : GoodIn wsX6_why wsX4_rootOf := goodIn_r _ [9] (by decide +kernel) (by decide +kernel)
set_option maxRecDepth 20000 in
theorem gX6_why_X4_rootOf : GoodIn wsX6_why (va_wsS RX6 156 yX4_rootOf wsX4_rootOf) := goodIn_app (goodIn_of _ (by decide +kernel)) ggX6_why_X4_rootOf
set_option maxRecDepth 20000 in
theorem ggX6_why_X4_ways : GoodIn wsX6_why wsX4_ways := goodIn_r _ [12, 13, 14, 15, 16, 17, 7, 8, 9, 18, 11] (by decide +kernel) (by decide +kernel)
set_option maxRecDepth 20000 in
theorem gX6_why_X4_ways : GoodIn wsX6_why (va_wsS RX6 161 yX4_ways wsX4_ways) := goodIn_app (goodIn_of _ (by decide +kernel)) ggX6_why_X4_ways
set_option maxRecDepth 20000 in
theorem ggX6_why_X4_hasPrimeOfRestThree : GoodIn wsX6_why wsX4_hasPrimeOfRestThree := goodIn_r _ [21] (by decide +kernel) (by decide +kernel)
set_option maxRecDepth 20000 in
theorem gX6_why_X4_hasPrimeOfRestThree : GoodIn wsX6_why (va_wsS RX6 165 yX4_hasPrimeOfRestThree wsX4_hasPrimeOfRestThree) := goodIn_app (goodIn_of _ (by decide +kernel)) ggX6_why_X4_hasPrimeOfRestThree
theorem dX6_why_0 : decode cX6_why 0 = .ok (.iload_n 1, 1) := by decide +kernel
theorem dX6_why_1 : decode cX6_why 1 = .ok (.iconst 1, 1) := by decide +kernel
theorem dX6_why_2 : decode cX6_why 2 = .ok (.ldc 155, 2) := by decide +kernel
theorem dX6_why_4 : decode cX6_why 4 = .ok (.invokestatic 42, 3) := by decide +kernel
theorem dX6_why_7 : decode cX6_why 7 = .ok (.ifCond .ne 5, 3) := by decide +kernel
theorem dX6_why_10 : decode cX6_why 10 = .ok (.iconst (-1), 1) := by decide +kernel
theorem dX6_why_11 : decode cX6_why 11 = .ok (.ireturn, 1) := by decide +kernel
theorem dX6_why_12 : decode cX6_why 12 = .ok (.iload_n 1, 1) := by decide +kernel
theorem dX6_why_13 : decode cX6_why 13 = .ok (.iconst 2, 1) := by decide +kernel
theorem dX6_why_14 : decode cX6_why 14 = .ok (.irem, 1) := by decide +kernel
theorem dX6_why_15 : decode cX6_why 15 = .ok (.iconst 1, 1) := by decide +kernel
theorem dX6_why_16 : decode cX6_why 16 = .ok (.if_icmp .ne 10, 3) := by decide +kernel
theorem dX6_why_19 : decode cX6_why 19 = .ok (.iload_n 1, 1) := by decide +kernel
theorem dX6_why_20 : decode cX6_why 20 = .ok (.iconst 1, 1) := by decide +kernel
theorem dX6_why_21 : decode cX6_why 21 = .ok (.if_icmp .eq 5, 3) := by decide +kernel
theorem dX6_why_24 : decode cX6_why 24 = .ok (.iconst 1, 1) := by decide +kernel
theorem dX6_why_25 : decode cX6_why 25 = .ok (.ireturn, 1) := by decide +kernel
theorem dX6_why_26 : decode cX6_why 26 = .ok (.iload_n 1, 1) := by decide +kernel
theorem dX6_why_27 : decode cX6_why 27 = .ok (.iconst 2, 1) := by decide +kernel
theorem dX6_why_28 : decode cX6_why 28 = .ok (.iload_n 1, 1) := by decide +kernel
theorem dX6_why_29 : decode cX6_why 29 = .ok (.invokestatic 156, 3) := by decide +kernel
theorem dX6_why_32 : decode cX6_why 32 = .ok (.invokestatic 161, 3) := by decide +kernel
theorem dX6_why_35 : decode cX6_why 35 = .ok (.ifCond .ne 5, 3) := by decide +kernel
theorem dX6_why_38 : decode cX6_why 38 = .ok (.iconst 2, 1) := by decide +kernel
theorem dX6_why_39 : decode cX6_why 39 = .ok (.ireturn, 1) := by decide +kernel
theorem dX6_why_40 : decode cX6_why 40 = .ok (.iload_n 1, 1) := by decide +kernel
theorem dX6_why_41 : decode cX6_why 41 = .ok (.invokestatic 165, 3) := by decide +kernel
theorem dX6_why_44 : decode cX6_why 44 = .ok (.ifCond .eq 7, 3) := by decide +kernel
theorem dX6_why_47 : decode cX6_why 47 = .ok (.iconst 3, 1) := by decide +kernel
theorem dX6_why_48 : decode cX6_why 48 = .ok (.goto 4, 3) := by decide +kernel
theorem dX6_why_51 : decode cX6_why 51 = .ok (.iconst 0, 1) := by decide +kernel
theorem dX6_why_52 : decode cX6_why 52 = .ok (.ireturn, 1) := by decide +kernel
set_option maxRecDepth 20000 in
theorem ggX6_squares_X6_within : GoodIn wsX6_squares wsX6_within := goodIn_r _ [5] (by decide +kernel) (by decide +kernel)
set_option maxRecDepth 20000 in
theorem gX6_squares_X6_within : GoodIn wsX6_squares (va_wsS RX6 42 yX6_within wsX6_within) := goodIn_app (goodIn_of _ (by decide +kernel)) ggX6_squares_X6_within
set_option maxRecDepth 20000 in
theorem ggX6_squares_X4_rootOf : GoodIn wsX6_squares wsX4_rootOf := goodIn_r _ [9] (by decide +kernel) (by decide +kernel)
set_option maxRecDepth 20000 in
theorem gX6_squares_X4_rootOf : GoodIn wsX6_squares (va_wsS RX6 156 yX4_rootOf wsX4_rootOf) := goodIn_app (goodIn_of _ (by decide +kernel)) ggX6_squares_X4_rootOf
set_option maxRecDepth 20000 in
theorem ggX6_squares_X4_ways : GoodIn wsX6_squares wsX4_ways := goodIn_r _ [12, 13, 14, 15, 16, 17, 7, 8, 9, 18, 11] (by decide +kernel) (by decide +kernel)
set_option maxRecDepth 20000 in
theorem gX6_squares_X4_ways : GoodIn wsX6_squares (va_wsS RX6 161 yX4_ways wsX4_ways) := goodIn_app (goodIn_of _ (by decide +kernel)) ggX6_squares_X4_ways
theorem dX6_squares_0 : decode cX6_squares 0 = .ok (.iload_n 2, 1) := by decide +kernel
theorem dX6_squares_1 : decode cX6_squares 1 = .ok (.iconst 1, 1) := by decide +kernel
theorem dX6_squares_2 : decode cX6_squares 2 = .ok (.iconst 4, 1) := by decide +kernel
theorem dX6_squares_3 : decode cX6_squares 3 = .ok (.invokestatic 42, 3) := by decide +kernel
theorem dX6_squares_6 : decode cX6_squares 6 = .ok (.ifCond .eq 24, 3) := by decide +kernel
theorem dX6_squares_9 : decode cX6_squares 9 = .ok (.iload_n 1, 1) := by decide +kernel
theorem dX6_squares_10 : decode cX6_squares 10 = .ok (.iconst 0, 1) := by decide +kernel
theorem dX6_squares_11 : decode cX6_squares 11 = .ok (.iload_n 2, 1) := by decide +kernel
theorem dX6_squares_12 : decode cX6_squares 12 = .ok (.iconst 2, 1) := by decide +kernel
theorem dX6_squares_13 : decode cX6_squares 13 = .ok (.if_icmp .gt 8, 3) := by decide +kernel
theorem dX6_squares_16 : decode cX6_squares 16 = .ok (.ldc 155, 2) := by decide +kernel
theorem dX6_squares_18 : decode cX6_squares 18 = .ok (.goto 6, 3) := by decide +kernel
theorem dX6_squares_21 : decode cX6_squares 21 = .ok (.sipush 1000, 3) := by decide +kernel
theorem dX6_squares_24 : decode cX6_squares 24 = .ok (.invokestatic 42, 3) := by decide +kernel
theorem dX6_squares_27 : decode cX6_squares 27 = .ok (.ifCond .ne 5, 3) := by decide +kernel
theorem dX6_squares_30 : decode cX6_squares 30 = .ok (.iconst (-1), 1) := by decide +kernel
theorem dX6_squares_31 : decode cX6_squares 31 = .ok (.ireturn, 1) := by decide +kernel
theorem dX6_squares_32 : decode cX6_squares 32 = .ok (.iload_n 1, 1) := by decide +kernel
theorem dX6_squares_33 : decode cX6_squares 33 = .ok (.iload_n 2, 1) := by decide +kernel
theorem dX6_squares_34 : decode cX6_squares 34 = .ok (.iload_n 1, 1) := by decide +kernel
theorem dX6_squares_35 : decode cX6_squares 35 = .ok (.invokestatic 156, 3) := by decide +kernel
theorem dX6_squares_38 : decode cX6_squares 38 = .ok (.invokestatic 161, 3) := by decide +kernel
theorem dX6_squares_41 : decode cX6_squares 41 = .ok (.ireturn, 1) := by decide +kernel
set_option maxRecDepth 20000 in
theorem ggX6_pairs_X6_within : GoodIn wsX6_pairs wsX6_within := goodIn_r _ [5] (by decide +kernel) (by decide +kernel)
set_option maxRecDepth 20000 in
theorem gX6_pairs_X6_within : GoodIn wsX6_pairs (va_wsS RX6 42 yX6_within wsX6_within) := goodIn_app (goodIn_of _ (by decide +kernel)) ggX6_pairs_X6_within
set_option maxRecDepth 20000 in
theorem ggX6_pairs_X6_pairListOf : GoodIn wsX6_pairs wsX6_pairListOf := goodIn_r _ [9, 10, 11, 12, 13, 14, 15, 16, 17, 18, 19, 20, 21, 22, 23, 24, 25, 26, 27, 28, 29, 30, 31, 32, 33, 34, 35, 36, 37, 38, 39, 40, 41, 42, 43, 44, 45, 46, 47, 48, 49, 50, 51, 52, 53, 54, 55, 56, 57, 58, 59, 60, 61, 62, 63, 64, 65, 66, 67, 68, 69, 70, 71, 72, 73, 74, 75, 76, 77, 78, 79, 80, 81, 82, 83, 84, 85, 86, 87, 88, 89, 90, 91, 92, 93, 94, 95, 96, 97, 98, 99, 100, 101, 102, 103, 104, 105, 106, 107, 108, 109, 110, 111, 112, 113, 114, 115, 116, 117, 118, 119, 120, 121, 122, 123, 124, 125, 126, 127, 128, 129, 130, 131, 132, 133, 134, 135, 136, 137, 138, 139, 140, 141, 142, 143, 179, 180, 181, 182, 183, 184, 185, 177, 178, 186, 187, 188, 189] (by decide +kernel) (by decide +kernel)
set_option maxRecDepth 20000 in
theorem gX6_pairs_X6_pairListOf : GoodIn wsX6_pairs (wsV RX6 168 RX6 yX6_pairListOf wsX6_pairListOf) := goodIn_app (goodIn_of _ (by decide +kernel)) ggX6_pairs_X6_pairListOf
set_option maxRecDepth 20000 in
theorem ggX6_pairs_X1_kinds : GoodIn wsX6_pairs wsX1_kinds := goodIn_r _ [147, 24, 148, 149, 150, 23, 151, 97, 177, 178, 186, 187, 188] (by decide +kernel) (by decide +kernel)
set_option maxRecDepth 20000 in
theorem gX6_pairs_X1_kinds : GoodIn wsX6_pairs (wsV RX6 175 RX1 yX1_kinds wsX1_kinds) := goodIn_app (goodIn_of _ (by decide +kernel)) ggX6_pairs_X1_kinds
set_option maxRecDepth 20000 in
theorem ggX6_pairs_X1_codeAt : GoodIn wsX6_pairs wsX1_codeAt := goodIn_r _ [155, 24, 156, 148, 149, 150, 23, 151, 97, 157, 158, 159, 160, 161, 162, 163, 164, 165, 166, 167, 168, 169, 170, 171, 172, 29, 173, 174, 175, 76, 176, 85, 177, 178, 186, 187, 188, 189] (by decide +kernel) (by decide +kernel)
set_option maxRecDepth 20000 in
theorem gX6_pairs_X1_codeAt : GoodIn wsX6_pairs (wsV RX6 179 RX1 yX1_codeAt wsX1_codeAt) := goodIn_app (goodIn_of _ (by decide +kernel)) ggX6_pairs_X1_codeAt
theorem dX6_pairs_0 : decode cX6_pairs 0 = .ok (.iload_n 1, 1) := by decide +kernel
theorem dX6_pairs_1 : decode cX6_pairs 1 = .ok (.iconst 1, 1) := by decide +kernel
theorem dX6_pairs_2 : decode cX6_pairs 2 = .ok (.bipush 8, 2) := by decide +kernel
theorem dX6_pairs_4 : decode cX6_pairs 4 = .ok (.invokestatic 42, 3) := by decide +kernel
theorem dX6_pairs_7 : decode cX6_pairs 7 = .ok (.ifCond .eq 12, 3) := by decide +kernel
theorem dX6_pairs_10 : decode cX6_pairs 10 = .ok (.iload_n 2, 1) := by decide +kernel
theorem dX6_pairs_11 : decode cX6_pairs 11 = .ok (.iconst 0, 1) := by decide +kernel
theorem dX6_pairs_12 : decode cX6_pairs 12 = .ok (.iconst 3, 1) := by decide +kernel
theorem dX6_pairs_13 : decode cX6_pairs 13 = .ok (.invokestatic 42, 3) := by decide +kernel
theorem dX6_pairs_16 : decode cX6_pairs 16 = .ok (.ifCond .ne 5, 3) := by decide +kernel
theorem dX6_pairs_19 : decode cX6_pairs 19 = .ok (.iconst (-1), 1) := by decide +kernel
theorem dX6_pairs_20 : decode cX6_pairs 20 = .ok (.ireturn, 1) := by decide +kernel
theorem dX6_pairs_21 : decode cX6_pairs 21 = .ok (.aload_n 0, 1) := by decide +kernel
theorem dX6_pairs_22 : decode cX6_pairs 22 = .ok (.iload_n 1, 1) := by decide +kernel
theorem dX6_pairs_23 : decode cX6_pairs 23 = .ok (.invokevirtual 168, 3) := by decide +kernel
theorem dX6_pairs_26 : decode cX6_pairs 26 = .ok (.astore_n 3, 1) := by decide +kernel
theorem dX6_pairs_27 : decode cX6_pairs 27 = .ok (.iload_n 2, 1) := by decide +kernel
theorem dX6_pairs_28 : decode cX6_pairs 28 = .ok (.ifCond .ne 8, 3) := by decide +kernel
theorem dX6_pairs_31 : decode cX6_pairs 31 = .ok (.aload_n 3, 1) := by decide +kernel
theorem dX6_pairs_32 : decode cX6_pairs 32 = .ok (.getfield 172, 3) := by decide +kernel
theorem dX6_pairs_35 : decode cX6_pairs 35 = .ok (.ireturn, 1) := by decide +kernel
theorem dX6_pairs_36 : decode cX6_pairs 36 = .ok (.iload_n 2, 1) := by decide +kernel
theorem dX6_pairs_37 : decode cX6_pairs 37 = .ok (.iconst 1, 1) := by decide +kernel
theorem dX6_pairs_38 : decode cX6_pairs 38 = .ok (.if_icmp .ne 8, 3) := by decide +kernel
theorem dX6_pairs_41 : decode cX6_pairs 41 = .ok (.aload_n 3, 1) := by decide +kernel
theorem dX6_pairs_42 : decode cX6_pairs 42 = .ok (.invokevirtual 175, 3) := by decide +kernel
theorem dX6_pairs_45 : decode cX6_pairs 45 = .ok (.ireturn, 1) := by decide +kernel
theorem dX6_pairs_46 : decode cX6_pairs 46 = .ok (.aload_n 3, 1) := by decide +kernel
theorem dX6_pairs_47 : decode cX6_pairs 47 = .ok (.invokevirtual 175, 3) := by decide +kernel
theorem dX6_pairs_50 : decode cX6_pairs 50 = .ok (.ifCond .ne 6, 3) := by decide +kernel
theorem dX6_pairs_53 : decode cX6_pairs 53 = .ok (.bipush (-4), 2) := by decide +kernel
theorem dX6_pairs_55 : decode cX6_pairs 55 = .ok (.ireturn, 1) := by decide +kernel
theorem dX6_pairs_56 : decode cX6_pairs 56 = .ok (.iload_n 2, 1) := by decide +kernel
theorem dX6_pairs_57 : decode cX6_pairs 57 = .ok (.iconst 2, 1) := by decide +kernel
theorem dX6_pairs_58 : decode cX6_pairs 58 = .ok (.if_icmp .ne 15, 3) := by decide +kernel
theorem dX6_pairs_61 : decode cX6_pairs 61 = .ok (.aload_n 3, 1) := by decide +kernel
theorem dX6_pairs_62 : decode cX6_pairs 62 = .ok (.iconst 0, 1) := by decide +kernel
theorem dX6_pairs_63 : decode cX6_pairs 63 = .ok (.invokevirtual 179, 3) := by decide +kernel
theorem dX6_pairs_66 : decode cX6_pairs 66 = .ok (.sipush 1000, 3) := by decide +kernel
theorem dX6_pairs_69 : decode cX6_pairs 69 = .ok (.idiv, 1) := by decide +kernel
theorem dX6_pairs_70 : decode cX6_pairs 70 = .ok (.goto 12, 3) := by decide +kernel
theorem dX6_pairs_73 : decode cX6_pairs 73 = .ok (.aload_n 3, 1) := by decide +kernel
theorem dX6_pairs_74 : decode cX6_pairs 74 = .ok (.iconst 0, 1) := by decide +kernel
theorem dX6_pairs_75 : decode cX6_pairs 75 = .ok (.invokevirtual 179, 3) := by decide +kernel
theorem dX6_pairs_78 : decode cX6_pairs 78 = .ok (.sipush 1000, 3) := by decide +kernel
theorem dX6_pairs_81 : decode cX6_pairs 81 = .ok (.irem, 1) := by decide +kernel
theorem dX6_pairs_82 : decode cX6_pairs 82 = .ok (.ireturn, 1) := by decide +kernel
set_option maxRecDepth 20000 in
theorem ggX6_pair_X6_within : GoodIn wsX6_pair wsX6_within := goodIn_r _ [4] (by decide +kernel) (by decide +kernel)
set_option maxRecDepth 20000 in
theorem gX6_pair_X6_within : GoodIn wsX6_pair (va_wsS RX6 42 yX6_within wsX6_within) := goodIn_app (goodIn_of _ (by decide +kernel)) ggX6_pair_X6_within
set_option maxRecDepth 20000 in
theorem ggX6_pair_X6_pairListOf : GoodIn wsX6_pair wsX6_pairListOf := goodIn_r _ [8, 9, 10, 11, 12, 13, 14, 15, 16, 17, 18, 19, 20, 21, 22, 23, 24, 25, 26, 27, 28, 29, 30, 31, 32, 33, 34, 35, 36, 37, 38, 39, 40, 41, 42, 43, 44, 45, 46, 47, 48, 49, 50, 51, 52, 53, 54, 55, 56, 57, 58, 59, 60, 61, 62, 63, 64, 65, 66, 67, 68, 69, 70, 71, 72, 73, 74, 75, 76, 77, 78, 79, 80, 81, 82, 83, 84, 85, 86, 87, 88, 89, 90, 91, 92, 93, 94, 95, 96, 97, 98, 99, 100, 101, 102, 103, 104, 105, 106, 107, 108, 109, 110, 111, 112, 113, 114, 115, 116, 117, 118, 119, 120, 121, 122, 123, 124, 125, 126, 127, 128, 129, 130, 131, 132, 133, 134, 135, 136, 137, 138, 139, 140, 141, 142, 176, 177, 178, 179, 180, 181, 182, 183, 184, 185, 186, 187, 188] (by decide +kernel) (by decide +kernel)
set_option maxRecDepth 20000 in
theorem gX6_pair_X6_pairListOf : GoodIn wsX6_pair (wsV RX6 168 RX6 yX6_pairListOf wsX6_pairListOf) := goodIn_app (goodIn_of _ (by decide +kernel)) ggX6_pair_X6_pairListOf
set_option maxRecDepth 20000 in
theorem ggX6_pair_X1_kinds : GoodIn wsX6_pair wsX1_kinds := goodIn_r _ [146, 23, 147, 148, 149, 22, 150, 96, 183, 184, 185, 186, 187] (by decide +kernel) (by decide +kernel)
set_option maxRecDepth 20000 in
theorem gX6_pair_X1_kinds : GoodIn wsX6_pair (wsV RX6 175 RX1 yX1_kinds wsX1_kinds) := goodIn_app (goodIn_of _ (by decide +kernel)) ggX6_pair_X1_kinds
set_option maxRecDepth 20000 in
theorem ggX6_pair_X1_codeAt : GoodIn wsX6_pair wsX1_codeAt := goodIn_r _ [154, 23, 155, 147, 148, 149, 22, 150, 96, 156, 157, 158, 159, 160, 161, 162, 163, 164, 165, 166, 167, 168, 169, 170, 171, 28, 172, 173, 174, 75, 175, 84, 183, 184, 185, 186, 187, 188] (by decide +kernel) (by decide +kernel)
set_option maxRecDepth 20000 in
theorem gX6_pair_X1_codeAt : GoodIn wsX6_pair (wsV RX6 179 RX1 yX1_codeAt wsX1_codeAt) := goodIn_app (goodIn_of _ (by decide +kernel)) ggX6_pair_X1_codeAt
theorem dX6_pair_0 : decode cX6_pair 0 = .ok (.iload_n 1, 1) := by decide +kernel
theorem dX6_pair_1 : decode cX6_pair 1 = .ok (.iconst 1, 1) := by decide +kernel
theorem dX6_pair_2 : decode cX6_pair 2 = .ok (.bipush 8, 2) := by decide +kernel
theorem dX6_pair_4 : decode cX6_pair 4 = .ok (.invokestatic 42, 3) := by decide +kernel
theorem dX6_pair_7 : decode cX6_pair 7 = .ok (.ifCond .eq 7, 3) := by decide +kernel
theorem dX6_pair_10 : decode cX6_pair 10 = .ok (.iload_n 2, 1) := by decide +kernel
theorem dX6_pair_11 : decode cX6_pair 11 = .ok (.ifCond .ge 5, 3) := by decide +kernel
theorem dX6_pair_14 : decode cX6_pair 14 = .ok (.iconst (-1), 1) := by decide +kernel
theorem dX6_pair_15 : decode cX6_pair 15 = .ok (.ireturn, 1) := by decide +kernel
theorem dX6_pair_16 : decode cX6_pair 16 = .ok (.aload_n 0, 1) := by decide +kernel
theorem dX6_pair_17 : decode cX6_pair 17 = .ok (.iload_n 1, 1) := by decide +kernel
theorem dX6_pair_18 : decode cX6_pair 18 = .ok (.invokevirtual 168, 3) := by decide +kernel
theorem dX6_pair_21 : decode cX6_pair 21 = .ok (.astore_n 3, 1) := by decide +kernel
theorem dX6_pair_22 : decode cX6_pair 22 = .ok (.iload_n 2, 1) := by decide +kernel
theorem dX6_pair_23 : decode cX6_pair 23 = .ok (.aload_n 3, 1) := by decide +kernel
theorem dX6_pair_24 : decode cX6_pair 24 = .ok (.invokevirtual 175, 3) := by decide +kernel
theorem dX6_pair_27 : decode cX6_pair 27 = .ok (.if_icmp .ge 11, 3) := by decide +kernel
theorem dX6_pair_30 : decode cX6_pair 30 = .ok (.aload_n 3, 1) := by decide +kernel
theorem dX6_pair_31 : decode cX6_pair 31 = .ok (.iload_n 2, 1) := by decide +kernel
theorem dX6_pair_32 : decode cX6_pair 32 = .ok (.invokevirtual 179, 3) := by decide +kernel
theorem dX6_pair_35 : decode cX6_pair 35 = .ok (.goto 5, 3) := by decide +kernel
theorem dX6_pair_38 : decode cX6_pair 38 = .ok (.bipush (-4), 2) := by decide +kernel
theorem dX6_pair_40 : decode cX6_pair 40 = .ok (.ireturn, 1) := by decide +kernel
set_option maxRecDepth 20000 in
theorem ggX6_best_X6_within : GoodIn wsX6_best wsX6_within := goodIn_r _ [8] (by decide +kernel) (by decide +kernel)
set_option maxRecDepth 20000 in
theorem gX6_best_X6_within : GoodIn wsX6_best (va_wsS RX6 42 yX6_within wsX6_within) := goodIn_app (goodIn_of _ (by decide +kernel)) ggX6_best_X6_within
set_option maxRecDepth 20000 in
theorem ggX6_best_X6_bestRowsOf : GoodIn wsX6_best wsX6_bestRowsOf := goodIn_r _ [12, 13, 14, 15, 16, 17, 18, 19, 20, 21, 22, 23, 24, 25, 26, 27, 28, 29, 30, 31, 32, 33, 34, 35, 36, 37, 38, 39, 40, 41, 42, 43, 44, 45, 46, 47, 48, 49, 50, 51, 52, 53, 54, 55, 56, 57, 58, 59, 60, 61, 62, 63, 64, 65, 66, 67, 68, 69, 70, 71, 76, 77, 78, 79, 80, 81, 82, 72, 73, 74, 75] (by decide +kernel) (by decide +kernel)
set_option maxRecDepth 20000 in
theorem gX6_best_X6_bestRowsOf : GoodIn wsX6_best (wsV RX6 182 RX6 yX6_bestRowsOf wsX6_bestRowsOf) := goodIn_app (goodIn_of _ (by decide +kernel)) ggX6_best_X6_bestRowsOf
theorem dX6_best_0 : decode cX6_best 0 = .ok (.iload_n 1, 1) := by decide +kernel
theorem dX6_best_1 : decode cX6_best 1 = .ok (.iconst 1, 1) := by decide +kernel
theorem dX6_best_2 : decode cX6_best 2 = .ok (.bipush 14, 2) := by decide +kernel
theorem dX6_best_4 : decode cX6_best 4 = .ok (.invokestatic 42, 3) := by decide +kernel
theorem dX6_best_7 : decode cX6_best 7 = .ok (.ifCond .eq 12, 3) := by decide +kernel
theorem dX6_best_10 : decode cX6_best 10 = .ok (.iload_n 2, 1) := by decide +kernel
theorem dX6_best_11 : decode cX6_best 11 = .ok (.iconst 0, 1) := by decide +kernel
theorem dX6_best_12 : decode cX6_best 12 = .ok (.iconst 1, 1) := by decide +kernel
theorem dX6_best_13 : decode cX6_best 13 = .ok (.invokestatic 42, 3) := by decide +kernel
theorem dX6_best_16 : decode cX6_best 16 = .ok (.ifCond .ne 5, 3) := by decide +kernel
theorem dX6_best_19 : decode cX6_best 19 = .ok (.iconst (-1), 1) := by decide +kernel
theorem dX6_best_20 : decode cX6_best 20 = .ok (.ireturn, 1) := by decide +kernel
theorem dX6_best_21 : decode cX6_best 21 = .ok (.iload_n 3, 1) := by decide +kernel
theorem dX6_best_22 : decode cX6_best 22 = .ok (.tableswitch 70 0 3 #[30, 40, 50, 60], 30) := by decide +kernel
theorem dX6_best_52 : decode cX6_best 52 = .ok (.aload_n 0, 1) := by decide +kernel
theorem dX6_best_53 : decode cX6_best 53 = .ok (.iload_n 1, 1) := by decide +kernel
theorem dX6_best_54 : decode cX6_best 54 = .ok (.iload_n 2, 1) := by decide +kernel
theorem dX6_best_55 : decode cX6_best 55 = .ok (.invokevirtual 182, 3) := by decide +kernel
theorem dX6_best_58 : decode cX6_best 58 = .ok (.getfield 186, 3) := by decide +kernel
theorem dX6_best_61 : decode cX6_best 61 = .ok (.ireturn, 1) := by decide +kernel
theorem dX6_best_62 : decode cX6_best 62 = .ok (.aload_n 0, 1) := by decide +kernel
theorem dX6_best_63 : decode cX6_best 63 = .ok (.iload_n 1, 1) := by decide +kernel
theorem dX6_best_64 : decode cX6_best 64 = .ok (.iload_n 2, 1) := by decide +kernel
theorem dX6_best_65 : decode cX6_best 65 = .ok (.invokevirtual 182, 3) := by decide +kernel
theorem dX6_best_68 : decode cX6_best 68 = .ok (.getfield 189, 3) := by decide +kernel
theorem dX6_best_71 : decode cX6_best 71 = .ok (.ireturn, 1) := by decide +kernel
theorem dX6_best_72 : decode cX6_best 72 = .ok (.aload_n 0, 1) := by decide +kernel
theorem dX6_best_73 : decode cX6_best 73 = .ok (.iload_n 1, 1) := by decide +kernel
theorem dX6_best_74 : decode cX6_best 74 = .ok (.iload_n 2, 1) := by decide +kernel
theorem dX6_best_75 : decode cX6_best 75 = .ok (.invokevirtual 182, 3) := by decide +kernel
theorem dX6_best_78 : decode cX6_best 78 = .ok (.getfield 192, 3) := by decide +kernel
theorem dX6_best_81 : decode cX6_best 81 = .ok (.ireturn, 1) := by decide +kernel
theorem dX6_best_82 : decode cX6_best 82 = .ok (.aload_n 0, 1) := by decide +kernel
theorem dX6_best_83 : decode cX6_best 83 = .ok (.iload_n 1, 1) := by decide +kernel
theorem dX6_best_84 : decode cX6_best 84 = .ok (.iload_n 2, 1) := by decide +kernel
theorem dX6_best_85 : decode cX6_best 85 = .ok (.invokevirtual 182, 3) := by decide +kernel
theorem dX6_best_88 : decode cX6_best 88 = .ok (.getfield 193, 3) := by decide +kernel
theorem dX6_best_91 : decode cX6_best 91 = .ok (.ireturn, 1) := by decide +kernel
theorem dX6_best_92 : decode cX6_best 92 = .ok (.iconst (-1), 1) := by decide +kernel
theorem dX6_best_93 : decode cX6_best 93 = .ok (.ireturn, 1) := by decide +kernel
set_option maxRecDepth 20000 in
theorem ggX6_count_X6_within : GoodIn wsX6_count wsX6_within := goodIn_r _ [6] (by decide +kernel) (by decide +kernel)
set_option maxRecDepth 20000 in
theorem gX6_count_X6_within : GoodIn wsX6_count (va_wsS RX6 42 yX6_within wsX6_within) := goodIn_app (goodIn_of _ (by decide +kernel)) ggX6_count_X6_within
set_option maxRecDepth 20000 in
theorem ggX6_count_X2_size : GoodIn wsX6_count wsX2_size := goodIn_r _ [11, 12, 20, 21] (by decide +kernel) (by decide +kernel)
set_option maxRecDepth 20000 in
theorem gX6_count_X2_size : GoodIn wsX6_count (wsV RX6 195 RX2 yX2_size wsX2_size) := goodIn_app (goodIn_of _ (by decide +kernel)) ggX6_count_X2_size
theorem dX6_count_0 : decode cX6_count 0 = .ok (.iload_n 1, 1) := by decide +kernel
theorem dX6_count_1 : decode cX6_count 1 = .ok (.iconst 0, 1) := by decide +kernel
theorem dX6_count_2 : decode cX6_count 2 = .ok (.iconst 1, 1) := by decide +kernel
theorem dX6_count_3 : decode cX6_count 3 = .ok (.invokestatic 42, 3) := by decide +kernel
theorem dX6_count_6 : decode cX6_count 6 = .ok (.ifCond .ne 5, 3) := by decide +kernel
theorem dX6_count_9 : decode cX6_count 9 = .ok (.iconst (-1), 1) := by decide +kernel
theorem dX6_count_10 : decode cX6_count 10 = .ok (.ireturn, 1) := by decide +kernel
theorem dX6_count_11 : decode cX6_count 11 = .ok (.iload_n 1, 1) := by decide +kernel
theorem dX6_count_12 : decode cX6_count 12 = .ok (.ifCond .ne 8, 3) := by decide +kernel
theorem dX6_count_15 : decode cX6_count 15 = .ok (.aload_n 0, 1) := by decide +kernel
theorem dX6_count_16 : decode cX6_count 16 = .ok (.getfield 38, 3) := by decide +kernel
theorem dX6_count_19 : decode cX6_count 19 = .ok (.ireturn, 1) := by decide +kernel
theorem dX6_count_20 : decode cX6_count 20 = .ok (.aload_n 0, 1) := by decide +kernel
theorem dX6_count_21 : decode cX6_count 21 = .ok (.getfield 19, 3) := by decide +kernel
theorem dX6_count_24 : decode cX6_count 24 = .ok (.iconst 0, 1) := by decide +kernel
theorem dX6_count_25 : decode cX6_count 25 = .ok (.aaload, 1) := by decide +kernel
theorem dX6_count_26 : decode cX6_count 26 = .ok (.astore_n 2, 1) := by decide +kernel
theorem dX6_count_27 : decode cX6_count 27 = .ok (.aload_n 2, 1) := by decide +kernel
theorem dX6_count_28 : decode cX6_count 28 = .ok (.ifnonnull 8, 3) := by decide +kernel
theorem dX6_count_31 : decode cX6_count 31 = .ok (.bipush (-4), 2) := by decide +kernel
theorem dX6_count_33 : decode cX6_count 33 = .ok (.goto 7, 3) := by decide +kernel
theorem dX6_count_36 : decode cX6_count 36 = .ok (.aload_n 2, 1) := by decide +kernel
theorem dX6_count_37 : decode cX6_count 37 = .ok (.invokevirtual 195, 3) := by decide +kernel
theorem dX6_count_40 : decode cX6_count 40 = .ok (.ireturn, 1) := by decide +kernel
theorem dX6_within_0 : decode cX6_within 0 = .ok (.iload_n 0, 1) := by decide +kernel
theorem dX6_within_1 : decode cX6_within 1 = .ok (.iload_n 1, 1) := by decide +kernel
theorem dX6_within_2 : decode cX6_within 2 = .ok (.if_icmp .lt 12, 3) := by decide +kernel
theorem dX6_within_5 : decode cX6_within 5 = .ok (.iload_n 0, 1) := by decide +kernel
theorem dX6_within_6 : decode cX6_within 6 = .ok (.iload_n 2, 1) := by decide +kernel
theorem dX6_within_7 : decode cX6_within 7 = .ok (.if_icmp .gt 7, 3) := by decide +kernel
theorem dX6_within_10 : decode cX6_within 10 = .ok (.iconst 1, 1) := by decide +kernel
theorem dX6_within_11 : decode cX6_within 11 = .ok (.goto 4, 3) := by decide +kernel
theorem dX6_within_14 : decode cX6_within 14 = .ok (.iconst 0, 1) := by decide +kernel
theorem dX6_within_15 : decode cX6_within 15 = .ok (.ireturn, 1) := by decide +kernel
set_option maxRecDepth 20000 in
theorem ggX6_isSheet_X6_within : GoodIn wsX6_isSheet wsX6_within := goodIn_r _ [4] (by decide +kernel) (by decide +kernel)
set_option maxRecDepth 20000 in
theorem gX6_isSheet_X6_within : GoodIn wsX6_isSheet (va_wsS RX6 42 yX6_within wsX6_within) := goodIn_app (goodIn_of _ (by decide +kernel)) ggX6_isSheet_X6_within
theorem dX6_isSheet_0 : decode cX6_isSheet 0 = .ok (.iload_n 0, 1) := by decide +kernel
theorem dX6_isSheet_1 : decode cX6_isSheet 1 = .ok (.iconst 0, 1) := by decide +kernel
theorem dX6_isSheet_2 : decode cX6_isSheet 2 = .ok (.iconst 3, 1) := by decide +kernel
theorem dX6_isSheet_3 : decode cX6_isSheet 3 = .ok (.invokestatic 42, 3) := by decide +kernel
theorem dX6_isSheet_6 : decode cX6_isSheet 6 = .ok (.ireturn, 1) := by decide +kernel
set_option maxRecDepth 20000 in
theorem ggX6_isLane_X6_within : GoodIn wsX6_isLane wsX6_within := goodIn_r _ [4] (by decide +kernel) (by decide +kernel)
set_option maxRecDepth 20000 in
theorem gX6_isLane_X6_within : GoodIn wsX6_isLane (va_wsS RX6 42 yX6_within wsX6_within) := goodIn_app (goodIn_of _ (by decide +kernel)) ggX6_isLane_X6_within
theorem dX6_isLane_0 : decode cX6_isLane 0 = .ok (.iload_n 0, 1) := by decide +kernel
theorem dX6_isLane_1 : decode cX6_isLane 1 = .ok (.iconst 0, 1) := by decide +kernel
theorem dX6_isLane_2 : decode cX6_isLane 2 = .ok (.iconst 2, 1) := by decide +kernel
theorem dX6_isLane_3 : decode cX6_isLane 3 = .ok (.invokestatic 42, 3) := by decide +kernel
theorem dX6_isLane_6 : decode cX6_isLane 6 = .ok (.ireturn, 1) := by decide +kernel
set_option maxRecDepth 20000 in
theorem ggX6_isRow_X6_within : GoodIn wsX6_isRow wsX6_within := goodIn_r _ [5] (by decide +kernel) (by decide +kernel)
set_option maxRecDepth 20000 in
theorem gX6_isRow_X6_within : GoodIn wsX6_isRow (va_wsS RX6 42 yX6_within wsX6_within) := goodIn_app (goodIn_of _ (by decide +kernel)) ggX6_isRow_X6_within
theorem dX6_isRow_0 : decode cX6_isRow 0 = .ok (.iload_n 1, 1) := by decide +kernel
theorem dX6_isRow_1 : decode cX6_isRow 1 = .ok (.iconst 0, 1) := by decide +kernel
theorem dX6_isRow_2 : decode cX6_isRow 2 = .ok (.aload_n 0, 1) := by decide +kernel
theorem dX6_isRow_3 : decode cX6_isRow 3 = .ok (.getfield 38, 3) := by decide +kernel
theorem dX6_isRow_6 : decode cX6_isRow 6 = .ok (.iconst 1, 1) := by decide +kernel
theorem dX6_isRow_7 : decode cX6_isRow 7 = .ok (.isub, 1) := by decide +kernel
theorem dX6_isRow_8 : decode cX6_isRow 8 = .ok (.invokestatic 42, 3) := by decide +kernel
theorem dX6_isRow_11 : decode cX6_isRow 11 = .ok (.ireturn, 1) := by decide +kernel
set_option maxRecDepth 20000 in
theorem ggX6_areAlikeLong_X6_isRow : GoodIn wsX6_areAlikeLong wsX6_isRow := goodIn_r _ [6, 7, 8, 9, 5, 10, 11, 12, 13, 14, 15, 16, 17] (by decide +kernel) (by decide +kernel)
set_option maxRecDepth 20000 in
theorem gX6_areAlikeLong_X6_isRow : GoodIn wsX6_areAlikeLong (wsV RX6 83 RX6 yX6_isRow wsX6_isRow) := goodIn_app (goodIn_of _ (by decide +kernel)) ggX6_areAlikeLong_X6_isRow
theorem dX6_areAlikeLong_0 : decode cX6_areAlikeLong 0 = .ok (.aload_n 0, 1) := by decide +kernel
theorem dX6_areAlikeLong_1 : decode cX6_areAlikeLong 1 = .ok (.iload_n 1, 1) := by decide +kernel
theorem dX6_areAlikeLong_2 : decode cX6_areAlikeLong 2 = .ok (.invokevirtual 83, 3) := by decide +kernel
theorem dX6_areAlikeLong_5 : decode cX6_areAlikeLong 5 = .ok (.ifCond .eq 30, 3) := by decide +kernel
theorem dX6_areAlikeLong_8 : decode cX6_areAlikeLong 8 = .ok (.aload_n 0, 1) := by decide +kernel
theorem dX6_areAlikeLong_9 : decode cX6_areAlikeLong 9 = .ok (.iload_n 2, 1) := by decide +kernel
theorem dX6_areAlikeLong_10 : decode cX6_areAlikeLong 10 = .ok (.invokevirtual 83, 3) := by decide +kernel
theorem dX6_areAlikeLong_13 : decode cX6_areAlikeLong 13 = .ok (.ifCond .eq 22, 3) := by decide +kernel
theorem dX6_areAlikeLong_16 : decode cX6_areAlikeLong 16 = .ok (.aload_n 0, 1) := by decide +kernel
theorem dX6_areAlikeLong_17 : decode cX6_areAlikeLong 17 = .ok (.getfield 9, 3) := by decide +kernel
theorem dX6_areAlikeLong_20 : decode cX6_areAlikeLong 20 = .ok (.iload_n 1, 1) := by decide +kernel
theorem dX6_areAlikeLong_21 : decode cX6_areAlikeLong 21 = .ok (.iaload, 1) := by decide +kernel
theorem dX6_areAlikeLong_22 : decode cX6_areAlikeLong 22 = .ok (.aload_n 0, 1) := by decide +kernel
theorem dX6_areAlikeLong_23 : decode cX6_areAlikeLong 23 = .ok (.getfield 9, 3) := by decide +kernel
theorem dX6_areAlikeLong_26 : decode cX6_areAlikeLong 26 = .ok (.iload_n 2, 1) := by decide +kernel
theorem dX6_areAlikeLong_27 : decode cX6_areAlikeLong 27 = .ok (.iaload, 1) := by decide +kernel
theorem dX6_areAlikeLong_28 : decode cX6_areAlikeLong 28 = .ok (.if_icmp .ne 7, 3) := by decide +kernel
theorem dX6_areAlikeLong_31 : decode cX6_areAlikeLong 31 = .ok (.iconst 1, 1) := by decide +kernel
theorem dX6_areAlikeLong_32 : decode cX6_areAlikeLong 32 = .ok (.goto 4, 3) := by decide +kernel
theorem dX6_areAlikeLong_35 : decode cX6_areAlikeLong 35 = .ok (.iconst 0, 1) := by decide +kernel
theorem dX6_areAlikeLong_36 : decode cX6_areAlikeLong 36 = .ok (.ireturn, 1) := by decide +kernel
theorem dX6_fits_0 : decode cX6_fits 0 = .ok (.iload_n 1, 1) := by decide +kernel
theorem dX6_fits_1 : decode cX6_fits 1 = .ok (.bipush 32, 2) := by decide +kernel
theorem dX6_fits_3 : decode cX6_fits 3 = .ok (.if_icmp .gt 18, 3) := by decide +kernel
theorem dX6_fits_6 : decode cX6_fits 6 = .ok (.aload_n 0, 1) := by decide +kernel
theorem dX6_fits_7 : decode cX6_fits 7 = .ok (.getfield 38, 3) := by decide +kernel
theorem dX6_fits_10 : decode cX6_fits 10 = .ok (.iload_n 2, 1) := by decide +kernel
theorem dX6_fits_11 : decode cX6_fits 11 = .ok (.iadd, 1) := by decide +kernel
theorem dX6_fits_12 : decode cX6_fits 12 = .ok (.bipush 24, 2) := by decide +kernel
theorem dX6_fits_14 : decode cX6_fits 14 = .ok (.if_icmp .gt 7, 3) := by decide +kernel
theorem dX6_fits_17 : decode cX6_fits 17 = .ok (.iconst 1, 1) := by decide +kernel
theorem dX6_fits_18 : decode cX6_fits 18 = .ok (.goto 4, 3) := by decide +kernel
theorem dX6_fits_21 : decode cX6_fits 21 = .ok (.iconst 0, 1) := by decide +kernel
theorem dX6_fits_22 : decode cX6_fits 22 = .ok (.ireturn, 1) := by decide +kernel
theorem dX6_added_0 : decode cX6_added 0 = .ok (.aload_n 0, 1) := by decide +kernel
theorem dX6_added_1 : decode cX6_added 1 = .ok (.getfield 38, 3) := by decide +kernel
theorem dX6_added_4 : decode cX6_added 4 = .ok (.istore 4, 2) := by decide +kernel
theorem dX6_added_6 : decode cX6_added 6 = .ok (.aload_n 0, 1) := by decide +kernel
theorem dX6_added_7 : decode cX6_added 7 = .ok (.getfield 9, 3) := by decide +kernel
theorem dX6_added_10 : decode cX6_added 10 = .ok (.iload 4, 2) := by decide +kernel
theorem dX6_added_12 : decode cX6_added 12 = .ok (.iload_n 1, 1) := by decide +kernel
theorem dX6_added_13 : decode cX6_added 13 = .ok (.iastore, 1) := by decide +kernel
theorem dX6_added_14 : decode cX6_added 14 = .ok (.aload_n 0, 1) := by decide +kernel
theorem dX6_added_15 : decode cX6_added 15 = .ok (.getfield 13, 3) := by decide +kernel
theorem dX6_added_18 : decode cX6_added 18 = .ok (.iload 4, 2) := by decide +kernel
theorem dX6_added_20 : decode cX6_added 20 = .ok (.lload_n 2, 1) := by decide +kernel
theorem dX6_added_21 : decode cX6_added 21 = .ok (.lastore, 1) := by decide +kernel
theorem dX6_added_22 : decode cX6_added 22 = .ok (.aload_n 0, 1) := by decide +kernel
theorem dX6_added_23 : decode cX6_added 23 = .ok (.dup, 1) := by decide +kernel
theorem dX6_added_24 : decode cX6_added 24 = .ok (.getfield 38, 3) := by decide +kernel
theorem dX6_added_27 : decode cX6_added 27 = .ok (.iconst 1, 1) := by decide +kernel
theorem dX6_added_28 : decode cX6_added 28 = .ok (.iadd, 1) := by decide +kernel
theorem dX6_added_29 : decode cX6_added 29 = .ok (.putfield 38, 3) := by decide +kernel
theorem dX6_added_32 : decode cX6_added 32 = .ok (.iload 4, 2) := by decide +kernel
theorem dX6_added_34 : decode cX6_added 34 = .ok (.ireturn, 1) := by decide +kernel
set_option maxRecDepth 20000 in
theorem ggX6_pairListOf_X1_init : GoodIn wsX6_pairListOf wsX1_init := goodIn_r _ [7, 8, 9, 10, 11, 12, 13, 14, 15, 16, 17, 18, 19, 20, 21, 22, 23, 24, 25, 26, 27, 28, 29, 30, 31, 32, 33, 34, 35, 36, 37, 38, 39, 40, 41, 42, 43, 44, 45, 46, 47, 48, 49, 50, 4, 51, 52, 53, 54, 55, 56, 57, 58, 59, 60, 61, 62, 63, 64, 65, 66, 67, 68, 69, 70, 71, 72, 73, 74, 75, 76, 77, 78, 79, 80, 81, 82, 83, 84, 85, 86, 87, 88, 89, 90, 91, 92, 93, 94, 95, 96, 97, 98, 99, 100, 101, 102, 103, 104, 105, 106, 107, 108, 109, 110, 111, 112, 113, 114, 115, 116, 117, 118, 119, 120, 121, 122, 123, 124, 125, 126, 127, 128, 129, 130, 131, 132, 133, 134, 142, 143, 144, 145, 146, 147] (by decide +kernel) (by decide +kernel)
set_option maxRecDepth 20000 in
theorem gX6_pairListOf_X1_init : GoodIn wsX6_pairListOf (wsX1_init) := ggX6_pairListOf_X1_init
theorem dX6_pairListOf_0 : decode cX6_pairListOf 0 = .ok (.aload_n 0, 1) := by decide +kernel
theorem dX6_pairListOf_1 : decode cX6_pairListOf 1 = .ok (.getfield 25, 3) := by decide +kernel
theorem dX6_pairListOf_4 : decode cX6_pairListOf 4 = .ok (.iload_n 1, 1) := by decide +kernel
theorem dX6_pairListOf_5 : decode cX6_pairListOf 5 = .ok (.aaload, 1) := by decide +kernel
theorem dX6_pairListOf_6 : decode cX6_pairListOf 6 = .ok (.ifnonnull 17, 3) := by decide +kernel
theorem dX6_pairListOf_9 : decode cX6_pairListOf 9 = .ok (.aload_n 0, 1) := by decide +kernel
theorem dX6_pairListOf_10 : decode cX6_pairListOf 10 = .ok (.getfield 25, 3) := by decide +kernel
theorem dX6_pairListOf_13 : decode cX6_pairListOf 13 = .ok (.iload_n 1, 1) := by decide +kernel
theorem dX6_pairListOf_14 : decode cX6_pairListOf 14 = .ok (.new 23, 3) := by decide +kernel
theorem dX6_pairListOf_17 : decode cX6_pairListOf 17 = .ok (.dup, 1) := by decide +kernel
theorem dX6_pairListOf_18 : decode cX6_pairListOf 18 = .ok (.iload_n 1, 1) := by decide +kernel
theorem dX6_pairListOf_19 : decode cX6_pairListOf 19 = .ok (.invokespecial 198, 3) := by decide +kernel
theorem dX6_pairListOf_22 : decode cX6_pairListOf 22 = .ok (.aastore, 1) := by decide +kernel
theorem dX6_pairListOf_23 : decode cX6_pairListOf 23 = .ok (.aload_n 0, 1) := by decide +kernel
theorem dX6_pairListOf_24 : decode cX6_pairListOf 24 = .ok (.getfield 25, 3) := by decide +kernel
theorem dX6_pairListOf_27 : decode cX6_pairListOf 27 = .ok (.iload_n 1, 1) := by decide +kernel
theorem dX6_pairListOf_28 : decode cX6_pairListOf 28 = .ok (.aaload, 1) := by decide +kernel
theorem dX6_pairListOf_29 : decode cX6_pairListOf 29 = .ok (.areturn, 1) := by decide +kernel
set_option maxRecDepth 20000 in
theorem ggX6_bestRowsOf_X0_init : GoodIn wsX6_bestRowsOf wsX0_init := goodIn_r _ [8, 9, 10, 11, 12, 13, 14, 15, 16, 17, 18, 19, 20, 21, 22, 23, 24, 25, 26, 27, 28, 29, 30, 31, 32, 33, 34, 35, 36, 37, 38, 39, 40, 41, 42, 43, 44, 45, 46, 47, 48, 49, 50, 51, 52, 53, 54, 55, 56, 57, 58, 59, 67, 68, 69, 70] (by decide +kernel) (by decide +kernel)
set_option maxRecDepth 20000 in
theorem gX6_bestRowsOf_X0_init : GoodIn wsX6_bestRowsOf (wsX0_init) := ggX6_bestRowsOf_X0_init
theorem dX6_bestRowsOf_0 : decode cX6_bestRowsOf 0 = .ok (.iload_n 2, 1) := by decide +kernel
theorem dX6_bestRowsOf_1 : decode cX6_bestRowsOf 1 = .ok (.ifCond .ne 10, 3) := by decide +kernel
theorem dX6_bestRowsOf_4 : decode cX6_bestRowsOf 4 = .ok (.aload_n 0, 1) := by decide +kernel
theorem dX6_bestRowsOf_5 : decode cX6_bestRowsOf 5 = .ok (.getfield 31, 3) := by decide +kernel
theorem dX6_bestRowsOf_8 : decode cX6_bestRowsOf 8 = .ok (.goto 7, 3) := by decide +kernel
theorem dX6_bestRowsOf_11 : decode cX6_bestRowsOf 11 = .ok (.aload_n 0, 1) := by decide +kernel
theorem dX6_bestRowsOf_12 : decode cX6_bestRowsOf 12 = .ok (.getfield 35, 3) := by decide +kernel
theorem dX6_bestRowsOf_15 : decode cX6_bestRowsOf 15 = .ok (.astore_n 3, 1) := by decide +kernel
theorem dX6_bestRowsOf_16 : decode cX6_bestRowsOf 16 = .ok (.aload_n 3, 1) := by decide +kernel
theorem dX6_bestRowsOf_17 : decode cX6_bestRowsOf 17 = .ok (.iload_n 1, 1) := by decide +kernel
theorem dX6_bestRowsOf_18 : decode cX6_bestRowsOf 18 = .ok (.aaload, 1) := by decide +kernel
theorem dX6_bestRowsOf_19 : decode cX6_bestRowsOf 19 = .ok (.ifnonnull 15, 3) := by decide +kernel
theorem dX6_bestRowsOf_22 : decode cX6_bestRowsOf 22 = .ok (.aload_n 3, 1) := by decide +kernel
theorem dX6_bestRowsOf_23 : decode cX6_bestRowsOf 23 = .ok (.iload_n 1, 1) := by decide +kernel
theorem dX6_bestRowsOf_24 : decode cX6_bestRowsOf 24 = .ok (.new 29, 3) := by decide +kernel
theorem dX6_bestRowsOf_27 : decode cX6_bestRowsOf 27 = .ok (.dup, 1) := by decide +kernel
theorem dX6_bestRowsOf_28 : decode cX6_bestRowsOf 28 = .ok (.iload_n 1, 1) := by decide +kernel
theorem dX6_bestRowsOf_29 : decode cX6_bestRowsOf 29 = .ok (.iload_n 2, 1) := by decide +kernel
theorem dX6_bestRowsOf_30 : decode cX6_bestRowsOf 30 = .ok (.invokespecial 201, 3) := by decide +kernel
theorem dX6_bestRowsOf_33 : decode cX6_bestRowsOf 33 = .ok (.aastore, 1) := by decide +kernel
theorem dX6_bestRowsOf_34 : decode cX6_bestRowsOf 34 = .ok (.aload_n 3, 1) := by decide +kernel
theorem dX6_bestRowsOf_35 : decode cX6_bestRowsOf 35 = .ok (.iload_n 1, 1) := by decide +kernel
theorem dX6_bestRowsOf_36 : decode cX6_bestRowsOf 36 = .ok (.aaload, 1) := by decide +kernel
theorem dX6_bestRowsOf_37 : decode cX6_bestRowsOf 37 = .ok (.areturn, 1) := by decide +kernel
end
section
theorem dX7_init_0 : decode cX7_init 0 = .ok (.aload_n 0, 1) := by decide +kernel
theorem dX7_init_1 : decode cX7_init 1 = .ok (.invokespecial 1, 3) := by decide +kernel
theorem dX7_init_4 : decode cX7_init 4 = .ok (.aload_n 0, 1) := by decide +kernel
theorem dX7_init_5 : decode cX7_init 5 = .ok (.bipush 24, 2) := by decide +kernel
theorem dX7_init_7 : decode cX7_init 7 = .ok (.newarray .int, 2) := by decide +kernel
theorem dX7_init_9 : decode cX7_init 9 = .ok (.putfield 7, 3) := by decide +kernel
theorem dX7_init_12 : decode cX7_init 12 = .ok (.aload_n 0, 1) := by decide +kernel
theorem dX7_init_13 : decode cX7_init 13 = .ok (.bipush 24, 2) := by decide +kernel
theorem dX7_init_15 : decode cX7_init 15 = .ok (.newarray .long, 2) := by decide +kernel
theorem dX7_init_17 : decode cX7_init 17 = .ok (.putfield 13, 3) := by decide +kernel
theorem dX7_init_20 : decode cX7_init 20 = .ok (.aload_n 0, 1) := by decide +kernel
theorem dX7_init_21 : decode cX7_init 21 = .ok (.iconst 4, 1) := by decide +kernel
theorem dX7_init_22 : decode cX7_init 22 = .ok (.newarray .int, 2) := by decide +kernel
theorem dX7_init_24 : decode cX7_init 24 = .ok (.dup, 1) := by decide +kernel
theorem dX7_init_25 : decode cX7_init 25 = .ok (.iconst 0, 1) := by decide +kernel
theorem dX7_init_26 : decode cX7_init 26 = .ok (.bipush (-4), 2) := by decide +kernel
theorem dX7_init_28 : decode cX7_init 28 = .ok (.iastore, 1) := by decide +kernel
theorem dX7_init_29 : decode cX7_init 29 = .ok (.dup, 1) := by decide +kernel
theorem dX7_init_30 : decode cX7_init 30 = .ok (.iconst 1, 1) := by decide +kernel
theorem dX7_init_31 : decode cX7_init 31 = .ok (.bipush (-4), 2) := by decide +kernel
theorem dX7_init_33 : decode cX7_init 33 = .ok (.iastore, 1) := by decide +kernel
theorem dX7_init_34 : decode cX7_init 34 = .ok (.dup, 1) := by decide +kernel
theorem dX7_init_35 : decode cX7_init 35 = .ok (.iconst 2, 1) := by decide +kernel
theorem dX7_init_36 : decode cX7_init 36 = .ok (.bipush (-4), 2) := by decide +kernel
theorem dX7_init_38 : decode cX7_init 38 = .ok (.iastore, 1) := by decide +kernel
theorem dX7_init_39 : decode cX7_init 39 = .ok (.dup, 1) := by decide +kernel
theorem dX7_init_40 : decode cX7_init 40 = .ok (.iconst 3, 1) := by decide +kernel
theorem dX7_init_41 : decode cX7_init 41 = .ok (.bipush (-4), 2) := by decide +kernel
theorem dX7_init_43 : decode cX7_init 43 = .ok (.iastore, 1) := by decide +kernel
theorem dX7_init_44 : decode cX7_init 44 = .ok (.putfield 17, 3) := by decide +kernel
theorem dX7_init_47 : decode cX7_init 47 = .ok (.aload_n 0, 1) := by decide +kernel
theorem dX7_init_48 : decode cX7_init 48 = .ok (.iconst 4, 1) := by decide +kernel
theorem dX7_init_49 : decode cX7_init 49 = .ok (.newarray .int, 2) := by decide +kernel
theorem dX7_init_51 : decode cX7_init 51 = .ok (.putfield 20, 3) := by decide +kernel
theorem dX7_init_54 : decode cX7_init 54 = .ok (.aload_n 0, 1) := by decide +kernel
theorem dX7_init_55 : decode cX7_init 55 = .ok (.sipush 256, 3) := by decide +kernel
theorem dX7_init_58 : decode cX7_init 58 = .ok (.newarray .int, 2) := by decide +kernel
theorem dX7_init_60 : decode cX7_init 60 = .ok (.putfield 23, 3) := by decide +kernel
theorem dX7_init_63 : decode cX7_init 63 = .ok (.aload_n 0, 1) := by decide +kernel
theorem dX7_init_64 : decode cX7_init 64 = .ok (.bipush 16, 2) := by decide +kernel
theorem dX7_init_66 : decode cX7_init 66 = .ok (.newarray .long, 2) := by decide +kernel
theorem dX7_init_68 : decode cX7_init 68 = .ok (.putfield 26, 3) := by decide +kernel
theorem dX7_init_71 : decode cX7_init 71 = .ok (.aload_n 0, 1) := by decide +kernel
theorem dX7_init_72 : decode cX7_init 72 = .ok (.bipush (-4), 2) := by decide +kernel
theorem dX7_init_74 : decode cX7_init 74 = .ok (.putfield 29, 3) := by decide +kernel
theorem dX7_init_77 : decode cX7_init 77 = .ok (.aload_n 0, 1) := by decide +kernel
theorem dX7_init_78 : decode cX7_init 78 = .ok (.sipush 6000, 3) := by decide +kernel
theorem dX7_init_81 : decode cX7_init 81 = .ok (.newarray .int, 2) := by decide +kernel
theorem dX7_init_83 : decode cX7_init 83 = .ok (.putfield 33, 3) := by decide +kernel
theorem dX7_init_86 : decode cX7_init 86 = .ok (.aload_n 0, 1) := by decide +kernel
theorem dX7_init_87 : decode cX7_init 87 = .ok (.sipush 600, 3) := by decide +kernel
theorem dX7_init_90 : decode cX7_init 90 = .ok (.newarray .int, 2) := by decide +kernel
theorem dX7_init_92 : decode cX7_init 92 = .ok (.putfield 36, 3) := by decide +kernel
theorem dX7_init_95 : decode cX7_init 95 = .ok (.aload_n 0, 1) := by decide +kernel
theorem dX7_init_96 : decode cX7_init 96 = .ok (.sipush 2048, 3) := by decide +kernel
theorem dX7_init_99 : decode cX7_init 99 = .ok (.newarray .int, 2) := by decide +kernel
theorem dX7_init_101 : decode cX7_init 101 = .ok (.putfield 39, 3) := by decide +kernel
theorem dX7_init_104 : decode cX7_init 104 = .ok (.aload_n 0, 1) := by decide +kernel
theorem dX7_init_105 : decode cX7_init 105 = .ok (.bipush 30, 2) := by decide +kernel
theorem dX7_init_107 : decode cX7_init 107 = .ok (.newarray .boolean, 2) := by decide +kernel
theorem dX7_init_109 : decode cX7_init 109 = .ok (.putfield 42, 3) := by decide +kernel
theorem dX7_init_112 : decode cX7_init 112 = .ok (.aload_n 0, 1) := by decide +kernel
theorem dX7_init_113 : decode cX7_init 113 = .ok (.bipush 120, 2) := by decide +kernel
theorem dX7_init_115 : decode cX7_init 115 = .ok (.newarray .int, 2) := by decide +kernel
theorem dX7_init_117 : decode cX7_init 117 = .ok (.putfield 46, 3) := by decide +kernel
theorem dX7_init_120 : decode cX7_init 120 = .ok (.return_, 1) := by decide +kernel
theorem dX7_in_0 : decode cX7_in 0 = .ok (.lload_n 0, 1) := by decide +kernel
theorem dX7_in_1 : decode cX7_in 1 = .ok (.lload_n 2, 1) := by decide +kernel
theorem dX7_in_2 : decode cX7_in 2 = .ok (.lcmp, 1) := by decide +kernel
theorem dX7_in_3 : decode cX7_in 3 = .ok (.ifCond .lt 14, 3) := by decide +kernel
theorem dX7_in_6 : decode cX7_in 6 = .ok (.lload_n 0, 1) := by decide +kernel
theorem dX7_in_7 : decode cX7_in 7 = .ok (.lload 4, 2) := by decide +kernel
theorem dX7_in_9 : decode cX7_in 9 = .ok (.lcmp, 1) := by decide +kernel
theorem dX7_in_10 : decode cX7_in 10 = .ok (.ifCond .gt 7, 3) := by decide +kernel
theorem dX7_in_13 : decode cX7_in 13 = .ok (.iconst 1, 1) := by decide +kernel
theorem dX7_in_14 : decode cX7_in 14 = .ok (.goto 4, 3) := by decide +kernel
theorem dX7_in_17 : decode cX7_in 17 = .ok (.iconst 0, 1) := by decide +kernel
theorem dX7_in_18 : decode cX7_in 18 = .ok (.ireturn, 1) := by decide +kernel
theorem dX7_at_0 : decode cX7_at 0 = .ok (.lload_n 0, 1) := by decide +kernel
theorem dX7_at_1 : decode cX7_at 1 = .ok (.iload_n 2, 1) := by decide +kernel
theorem dX7_at_2 : decode cX7_at 2 = .ok (.lshr, 1) := by decide +kernel
theorem dX7_at_3 : decode cX7_at 3 = .ok (.lconst 1, 1) := by decide +kernel
theorem dX7_at_4 : decode cX7_at 4 = .ok (.land, 1) := by decide +kernel
theorem dX7_at_5 : decode cX7_at 5 = .ok (.lconst 1, 1) := by decide +kernel
theorem dX7_at_6 : decode cX7_at 6 = .ok (.lcmp, 1) := by decide +kernel
theorem dX7_at_7 : decode cX7_at 7 = .ok (.ifCond .ne 7, 3) := by decide +kernel
theorem dX7_at_10 : decode cX7_at 10 = .ok (.iconst (-1), 1) := by decide +kernel
theorem dX7_at_11 : decode cX7_at 11 = .ok (.goto 4, 3) := by decide +kernel
theorem dX7_at_14 : decode cX7_at 14 = .ok (.iconst 1, 1) := by decide +kernel
theorem dX7_at_15 : decode cX7_at 15 = .ok (.ireturn, 1) := by decide +kernel
set_option maxRecDepth 20000 in
theorem ggX7_is_X7_in : GoodIn wsX7_is wsX7_in := goodIn_r _ [5] (by decide +kernel) (by decide +kernel)
set_option maxRecDepth 20000 in
theorem gX7_is_X7_in : GoodIn wsX7_is (va_wsS RX7 52 yX7_in wsX7_in) := goodIn_app (goodIn_of _ (by decide +kernel)) ggX7_is_X7_in
theorem dX7_is_0 : decode cX7_is 0 = .ok (.iload_n 1, 1) := by decide +kernel
theorem dX7_is_1 : decode cX7_is 1 = .ok (.i2l, 1) := by decide +kernel
theorem dX7_is_2 : decode cX7_is 2 = .ok (.lconst 0, 1) := by decide +kernel
theorem dX7_is_3 : decode cX7_is 3 = .ok (.aload_n 0, 1) := by decide +kernel
theorem dX7_is_4 : decode cX7_is 4 = .ok (.getfield 49, 3) := by decide +kernel
theorem dX7_is_7 : decode cX7_is 7 = .ok (.iconst 1, 1) := by decide +kernel
theorem dX7_is_8 : decode cX7_is 8 = .ok (.isub, 1) := by decide +kernel
theorem dX7_is_9 : decode cX7_is 9 = .ok (.i2l, 1) := by decide +kernel
theorem dX7_is_10 : decode cX7_is 10 = .ok (.invokestatic 52, 3) := by decide +kernel
theorem dX7_is_13 : decode cX7_is 13 = .ok (.ireturn, 1) := by decide +kernel
theorem dX7_added_0 : decode cX7_added 0 = .ok (.aload_n 0, 1) := by decide +kernel
theorem dX7_added_1 : decode cX7_added 1 = .ok (.getfield 7, 3) := by decide +kernel
theorem dX7_added_4 : decode cX7_added 4 = .ok (.aload_n 0, 1) := by decide +kernel
theorem dX7_added_5 : decode cX7_added 5 = .ok (.getfield 49, 3) := by decide +kernel
theorem dX7_added_8 : decode cX7_added 8 = .ok (.iload_n 1, 1) := by decide +kernel
theorem dX7_added_9 : decode cX7_added 9 = .ok (.iastore, 1) := by decide +kernel
theorem dX7_added_10 : decode cX7_added 10 = .ok (.aload_n 0, 1) := by decide +kernel
theorem dX7_added_11 : decode cX7_added 11 = .ok (.getfield 13, 3) := by decide +kernel
theorem dX7_added_14 : decode cX7_added 14 = .ok (.aload_n 0, 1) := by decide +kernel
theorem dX7_added_15 : decode cX7_added 15 = .ok (.getfield 49, 3) := by decide +kernel
theorem dX7_added_18 : decode cX7_added 18 = .ok (.lload_n 2, 1) := by decide +kernel
theorem dX7_added_19 : decode cX7_added 19 = .ok (.lastore, 1) := by decide +kernel
theorem dX7_added_20 : decode cX7_added 20 = .ok (.aload_n 0, 1) := by decide +kernel
theorem dX7_added_21 : decode cX7_added 21 = .ok (.dup, 1) := by decide +kernel
theorem dX7_added_22 : decode cX7_added 22 = .ok (.getfield 49, 3) := by decide +kernel
theorem dX7_added_25 : decode cX7_added 25 = .ok (.iconst 1, 1) := by decide +kernel
theorem dX7_added_26 : decode cX7_added 26 = .ok (.iadd, 1) := by decide +kernel
theorem dX7_added_27 : decode cX7_added 27 = .ok (.putfield 49, 3) := by decide +kernel
theorem dX7_added_30 : decode cX7_added 30 = .ok (.aload_n 0, 1) := by decide +kernel
theorem dX7_added_31 : decode cX7_added 31 = .ok (.getfield 49, 3) := by decide +kernel
theorem dX7_added_34 : decode cX7_added 34 = .ok (.iconst 1, 1) := by decide +kernel
theorem dX7_added_35 : decode cX7_added 35 = .ok (.isub, 1) := by decide +kernel
theorem dX7_added_36 : decode cX7_added 36 = .ok (.ireturn, 1) := by decide +kernel
set_option maxRecDepth 20000 in
theorem ggX7_row_X7_in : GoodIn wsX7_row wsX7_in := goodIn_r _ [6] (by decide +kernel) (by decide +kernel)
set_option maxRecDepth 20000 in
theorem gX7_row_X7_in : GoodIn wsX7_row (va_wsS RX7 52 yX7_in wsX7_in) := goodIn_app (goodIn_of _ (by decide +kernel)) ggX7_row_X7_in
set_option maxRecDepth 20000 in
theorem ggX7_row_X7_added : GoodIn wsX7_row wsX7_added := goodIn_r _ [10, 11, 2, 12, 13, 14, 15, 16, 17, 18, 19, 20, 21, 22, 23, 24, 25, 26, 27, 28] (by decide +kernel) (by decide +kernel)
set_option maxRecDepth 20000 in
theorem gX7_row_X7_added : GoodIn wsX7_row (wsV RX7 58 RX7 yX7_added wsX7_added) := goodIn_app (goodIn_of _ (by decide +kernel)) ggX7_row_X7_added
theorem dX7_row_0 : decode cX7_row 0 = .ok (.iload_n 1, 1) := by decide +kernel
theorem dX7_row_1 : decode cX7_row 1 = .ok (.i2l, 1) := by decide +kernel
theorem dX7_row_2 : decode cX7_row 2 = .ok (.lconst 1, 1) := by decide +kernel
theorem dX7_row_3 : decode cX7_row 3 = .ok (.ldc2_w 56, 3) := by decide +kernel
theorem dX7_row_6 : decode cX7_row 6 = .ok (.invokestatic 52, 3) := by decide +kernel
theorem dX7_row_9 : decode cX7_row 9 = .ok (.ifCond .eq 16, 3) := by decide +kernel
theorem dX7_row_12 : decode cX7_row 12 = .ok (.lload_n 2, 1) := by decide +kernel
theorem dX7_row_13 : decode cX7_row 13 = .ok (.lconst 0, 1) := by decide +kernel
theorem dX7_row_14 : decode cX7_row 14 = .ok (.lconst 1, 1) := by decide +kernel
theorem dX7_row_15 : decode cX7_row 15 = .ok (.iload_n 1, 1) := by decide +kernel
theorem dX7_row_16 : decode cX7_row 16 = .ok (.lshl, 1) := by decide +kernel
theorem dX7_row_17 : decode cX7_row 17 = .ok (.lconst 1, 1) := by decide +kernel
theorem dX7_row_18 : decode cX7_row 18 = .ok (.lsub, 1) := by decide +kernel
theorem dX7_row_19 : decode cX7_row 19 = .ok (.invokestatic 52, 3) := by decide +kernel
theorem dX7_row_22 : decode cX7_row 22 = .ok (.ifCond .ne 5, 3) := by decide +kernel
theorem dX7_row_25 : decode cX7_row 25 = .ok (.iconst (-1), 1) := by decide +kernel
theorem dX7_row_26 : decode cX7_row 26 = .ok (.ireturn, 1) := by decide +kernel
theorem dX7_row_27 : decode cX7_row 27 = .ok (.aload_n 0, 1) := by decide +kernel
theorem dX7_row_28 : decode cX7_row 28 = .ok (.getfield 49, 3) := by decide +kernel
theorem dX7_row_31 : decode cX7_row 31 = .ok (.bipush 24, 2) := by decide +kernel
theorem dX7_row_33 : decode cX7_row 33 = .ok (.if_icmp .ne 8, 3) := by decide +kernel
theorem dX7_row_36 : decode cX7_row 36 = .ok (.bipush (-3), 2) := by decide +kernel
theorem dX7_row_38 : decode cX7_row 38 = .ok (.goto 9, 3) := by decide +kernel
theorem dX7_row_41 : decode cX7_row 41 = .ok (.aload_n 0, 1) := by decide +kernel
theorem dX7_row_42 : decode cX7_row 42 = .ok (.iload_n 1, 1) := by decide +kernel
theorem dX7_row_43 : decode cX7_row 43 = .ok (.lload_n 2, 1) := by decide +kernel
theorem dX7_row_44 : decode cX7_row 44 = .ok (.invokevirtual 58, 3) := by decide +kernel
theorem dX7_row_47 : decode cX7_row 47 = .ok (.ireturn, 1) := by decide +kernel
set_option maxRecDepth 20000 in
theorem ggX7_sheet_X7_in : GoodIn wsX7_sheet wsX7_in := goodIn_r _ [9] (by decide +kernel) (by decide +kernel)
set_option maxRecDepth 20000 in
theorem gX7_sheet_X7_in : GoodIn wsX7_sheet (va_wsS RX7 52 yX7_in wsX7_in) := goodIn_app (goodIn_of _ (by decide +kernel)) ggX7_sheet_X7_in
theorem dX7_sheet_0 : decode cX7_sheet 0 = .ok (.iload_n 1, 1) := by decide +kernel
theorem dX7_sheet_1 : decode cX7_sheet 1 = .ok (.i2l, 1) := by decide +kernel
theorem dX7_sheet_2 : decode cX7_sheet 2 = .ok (.lconst 0, 1) := by decide +kernel
theorem dX7_sheet_3 : decode cX7_sheet 3 = .ok (.ldc2_w 62, 3) := by decide +kernel
theorem dX7_sheet_6 : decode cX7_sheet 6 = .ok (.invokestatic 52, 3) := by decide +kernel
theorem dX7_sheet_9 : decode cX7_sheet 9 = .ok (.ifCond .eq 21, 3) := by decide +kernel
theorem dX7_sheet_12 : decode cX7_sheet 12 = .ok (.iload_n 2, 1) := by decide +kernel
theorem dX7_sheet_13 : decode cX7_sheet 13 = .ok (.i2l, 1) := by decide +kernel
theorem dX7_sheet_14 : decode cX7_sheet 14 = .ok (.lconst 0, 1) := by decide +kernel
theorem dX7_sheet_15 : decode cX7_sheet 15 = .ok (.ldc2_w 64, 3) := by decide +kernel
theorem dX7_sheet_18 : decode cX7_sheet 18 = .ok (.invokestatic 52, 3) := by decide +kernel
theorem dX7_sheet_21 : decode cX7_sheet 21 = .ok (.ifCond .eq 9, 3) := by decide +kernel
theorem dX7_sheet_24 : decode cX7_sheet 24 = .ok (.iload_n 3, 1) := by decide +kernel
theorem dX7_sheet_25 : decode cX7_sheet 25 = .ok (.bipush 64, 2) := by decide +kernel
theorem dX7_sheet_27 : decode cX7_sheet 27 = .ok (.if_icmp .le 5, 3) := by decide +kernel
theorem dX7_sheet_30 : decode cX7_sheet 30 = .ok (.iconst (-1), 1) := by decide +kernel
theorem dX7_sheet_31 : decode cX7_sheet 31 = .ok (.ireturn, 1) := by decide +kernel
theorem dX7_sheet_32 : decode cX7_sheet 32 = .ok (.iload_n 3, 1) := by decide +kernel
theorem dX7_sheet_33 : decode cX7_sheet 33 = .ok (.ifCond .ge 6, 3) := by decide +kernel
theorem dX7_sheet_36 : decode cX7_sheet 36 = .ok (.bipush (-14), 2) := by decide +kernel
theorem dX7_sheet_38 : decode cX7_sheet 38 = .ok (.ireturn, 1) := by decide +kernel
theorem dX7_sheet_39 : decode cX7_sheet 39 = .ok (.aload_n 0, 1) := by decide +kernel
theorem dX7_sheet_40 : decode cX7_sheet 40 = .ok (.getfield 17, 3) := by decide +kernel
theorem dX7_sheet_43 : decode cX7_sheet 43 = .ok (.iload_n 1, 1) := by decide +kernel
theorem dX7_sheet_44 : decode cX7_sheet 44 = .ok (.iload_n 2, 1) := by decide +kernel
theorem dX7_sheet_45 : decode cX7_sheet 45 = .ok (.iastore, 1) := by decide +kernel
theorem dX7_sheet_46 : decode cX7_sheet 46 = .ok (.aload_n 0, 1) := by decide +kernel
theorem dX7_sheet_47 : decode cX7_sheet 47 = .ok (.getfield 20, 3) := by decide +kernel
theorem dX7_sheet_50 : decode cX7_sheet 50 = .ok (.iload_n 1, 1) := by decide +kernel
theorem dX7_sheet_51 : decode cX7_sheet 51 = .ok (.iload_n 3, 1) := by decide +kernel
theorem dX7_sheet_52 : decode cX7_sheet 52 = .ok (.iastore, 1) := by decide +kernel
theorem dX7_sheet_53 : decode cX7_sheet 53 = .ok (.iconst 0, 1) := by decide +kernel
theorem dX7_sheet_54 : decode cX7_sheet 54 = .ok (.istore 4, 2) := by decide +kernel
theorem dX7_sheet_56 : decode cX7_sheet 56 = .ok (.iload 4, 2) := by decide +kernel
theorem dX7_sheet_58 : decode cX7_sheet 58 = .ok (.bipush 64, 2) := by decide +kernel
theorem dX7_sheet_60 : decode cX7_sheet 60 = .ok (.if_icmp .ge 22, 3) := by decide +kernel
theorem dX7_sheet_63 : decode cX7_sheet 63 = .ok (.aload_n 0, 1) := by decide +kernel
theorem dX7_sheet_64 : decode cX7_sheet 64 = .ok (.getfield 23, 3) := by decide +kernel
theorem dX7_sheet_67 : decode cX7_sheet 67 = .ok (.bipush 64, 2) := by decide +kernel
theorem dX7_sheet_69 : decode cX7_sheet 69 = .ok (.iload_n 1, 1) := by decide +kernel
theorem dX7_sheet_70 : decode cX7_sheet 70 = .ok (.imul, 1) := by decide +kernel
theorem dX7_sheet_71 : decode cX7_sheet 71 = .ok (.iload 4, 2) := by decide +kernel
theorem dX7_sheet_73 : decode cX7_sheet 73 = .ok (.iadd, 1) := by decide +kernel
theorem dX7_sheet_74 : decode cX7_sheet 74 = .ok (.iconst 0, 1) := by decide +kernel
theorem dX7_sheet_75 : decode cX7_sheet 75 = .ok (.iastore, 1) := by decide +kernel
theorem dX7_sheet_76 : decode cX7_sheet 76 = .ok (.iinc 4 1, 3) := by decide +kernel
theorem dX7_sheet_79 : decode cX7_sheet 79 = .ok (.goto (-23), 3) := by decide +kernel
theorem dX7_sheet_82 : decode cX7_sheet 82 = .ok (.iconst 1, 1) := by decide +kernel
theorem dX7_sheet_83 : decode cX7_sheet 83 = .ok (.ireturn, 1) := by decide +kernel
set_option maxRecDepth 20000 in
theorem ggX7_lay_X7_in : GoodIn wsX7_lay wsX7_in := goodIn_r _ [8] (by decide +kernel) (by decide +kernel)
set_option maxRecDepth 20000 in
theorem gX7_lay_X7_in : GoodIn wsX7_lay (va_wsS RX7 52 yX7_in wsX7_in) := goodIn_app (goodIn_of _ (by decide +kernel)) ggX7_lay_X7_in
theorem dX7_lay_0 : decode cX7_lay 0 = .ok (.iload_n 1, 1) := by decide +kernel
theorem dX7_lay_1 : decode cX7_lay 1 = .ok (.i2l, 1) := by decide +kernel
theorem dX7_lay_2 : decode cX7_lay 2 = .ok (.lconst 0, 1) := by decide +kernel
theorem dX7_lay_3 : decode cX7_lay 3 = .ok (.ldc2_w 62, 3) := by decide +kernel
theorem dX7_lay_6 : decode cX7_lay 6 = .ok (.invokestatic 52, 3) := by decide +kernel
theorem dX7_lay_9 : decode cX7_lay 9 = .ok (.ifCond .ne 5, 3) := by decide +kernel
theorem dX7_lay_12 : decode cX7_lay 12 = .ok (.iconst (-1), 1) := by decide +kernel
theorem dX7_lay_13 : decode cX7_lay 13 = .ok (.ireturn, 1) := by decide +kernel
theorem dX7_lay_14 : decode cX7_lay 14 = .ok (.aload_n 0, 1) := by decide +kernel
theorem dX7_lay_15 : decode cX7_lay 15 = .ok (.getfield 17, 3) := by decide +kernel
theorem dX7_lay_18 : decode cX7_lay 18 = .ok (.iload_n 1, 1) := by decide +kernel
theorem dX7_lay_19 : decode cX7_lay 19 = .ok (.iaload, 1) := by decide +kernel
theorem dX7_lay_20 : decode cX7_lay 20 = .ok (.bipush (-4), 2) := by decide +kernel
theorem dX7_lay_22 : decode cX7_lay 22 = .ok (.if_icmp .ne 6, 3) := by decide +kernel
theorem dX7_lay_25 : decode cX7_lay 25 = .ok (.bipush (-11), 2) := by decide +kernel
theorem dX7_lay_27 : decode cX7_lay 27 = .ok (.ireturn, 1) := by decide +kernel
theorem dX7_lay_28 : decode cX7_lay 28 = .ok (.iload_n 2, 1) := by decide +kernel
theorem dX7_lay_29 : decode cX7_lay 29 = .ok (.i2l, 1) := by decide +kernel
theorem dX7_lay_30 : decode cX7_lay 30 = .ok (.lconst 0, 1) := by decide +kernel
theorem dX7_lay_31 : decode cX7_lay 31 = .ok (.aload_n 0, 1) := by decide +kernel
theorem dX7_lay_32 : decode cX7_lay 32 = .ok (.getfield 20, 3) := by decide +kernel
theorem dX7_lay_35 : decode cX7_lay 35 = .ok (.iload_n 1, 1) := by decide +kernel
theorem dX7_lay_36 : decode cX7_lay 36 = .ok (.iaload, 1) := by decide +kernel
theorem dX7_lay_37 : decode cX7_lay 37 = .ok (.iconst 1, 1) := by decide +kernel
theorem dX7_lay_38 : decode cX7_lay 38 = .ok (.isub, 1) := by decide +kernel
theorem dX7_lay_39 : decode cX7_lay 39 = .ok (.i2l, 1) := by decide +kernel
theorem dX7_lay_40 : decode cX7_lay 40 = .ok (.invokestatic 52, 3) := by decide +kernel
theorem dX7_lay_43 : decode cX7_lay 43 = .ok (.ifCond .ne 6, 3) := by decide +kernel
theorem dX7_lay_46 : decode cX7_lay 46 = .ok (.bipush (-12), 2) := by decide +kernel
theorem dX7_lay_48 : decode cX7_lay 48 = .ok (.ireturn, 1) := by decide +kernel
theorem dX7_lay_49 : decode cX7_lay 49 = .ok (.aload_n 0, 1) := by decide +kernel
theorem dX7_lay_50 : decode cX7_lay 50 = .ok (.getfield 23, 3) := by decide +kernel
theorem dX7_lay_53 : decode cX7_lay 53 = .ok (.bipush 64, 2) := by decide +kernel
theorem dX7_lay_55 : decode cX7_lay 55 = .ok (.iload_n 1, 1) := by decide +kernel
theorem dX7_lay_56 : decode cX7_lay 56 = .ok (.imul, 1) := by decide +kernel
theorem dX7_lay_57 : decode cX7_lay 57 = .ok (.iload_n 2, 1) := by decide +kernel
theorem dX7_lay_58 : decode cX7_lay 58 = .ok (.iadd, 1) := by decide +kernel
theorem dX7_lay_59 : decode cX7_lay 59 = .ok (.aload_n 0, 1) := by decide +kernel
theorem dX7_lay_60 : decode cX7_lay 60 = .ok (.getfield 17, 3) := by decide +kernel
theorem dX7_lay_63 : decode cX7_lay 63 = .ok (.iload_n 1, 1) := by decide +kernel
theorem dX7_lay_64 : decode cX7_lay 64 = .ok (.iaload, 1) := by decide +kernel
theorem dX7_lay_65 : decode cX7_lay 65 = .ok (.ifCond .ne 13, 3) := by decide +kernel
theorem dX7_lay_68 : decode cX7_lay 68 = .ok (.iload_n 3, 1) := by decide +kernel
theorem dX7_lay_69 : decode cX7_lay 69 = .ok (.bipush 24, 2) := by decide +kernel
theorem dX7_lay_71 : decode cX7_lay 71 = .ok (.ishl, 1) := by decide +kernel
theorem dX7_lay_72 : decode cX7_lay 72 = .ok (.bipush 24, 2) := by decide +kernel
theorem dX7_lay_74 : decode cX7_lay 74 = .ok (.ishr, 1) := by decide +kernel
theorem dX7_lay_75 : decode cX7_lay 75 = .ok (.goto 24, 3) := by decide +kernel
theorem dX7_lay_78 : decode cX7_lay 78 = .ok (.aload_n 0, 1) := by decide +kernel
theorem dX7_lay_79 : decode cX7_lay 79 = .ok (.getfield 17, 3) := by decide +kernel
theorem dX7_lay_82 : decode cX7_lay 82 = .ok (.iload_n 1, 1) := by decide +kernel
theorem dX7_lay_83 : decode cX7_lay 83 = .ok (.iaload, 1) := by decide +kernel
theorem dX7_lay_84 : decode cX7_lay 84 = .ok (.iconst 1, 1) := by decide +kernel
theorem dX7_lay_85 : decode cX7_lay 85 = .ok (.if_icmp .ne 13, 3) := by decide +kernel
theorem dX7_lay_88 : decode cX7_lay 88 = .ok (.iload_n 3, 1) := by decide +kernel
theorem dX7_lay_89 : decode cX7_lay 89 = .ok (.bipush 16, 2) := by decide +kernel
theorem dX7_lay_91 : decode cX7_lay 91 = .ok (.ishl, 1) := by decide +kernel
theorem dX7_lay_92 : decode cX7_lay 92 = .ok (.bipush 16, 2) := by decide +kernel
theorem dX7_lay_94 : decode cX7_lay 94 = .ok (.ishr, 1) := by decide +kernel
theorem dX7_lay_95 : decode cX7_lay 95 = .ok (.goto 4, 3) := by decide +kernel
theorem dX7_lay_98 : decode cX7_lay 98 = .ok (.iload_n 3, 1) := by decide +kernel
theorem dX7_lay_99 : decode cX7_lay 99 = .ok (.iastore, 1) := by decide +kernel
theorem dX7_lay_100 : decode cX7_lay 100 = .ok (.iconst 1, 1) := by decide +kernel
theorem dX7_lay_101 : decode cX7_lay 101 = .ok (.ireturn, 1) := by decide +kernel
set_option maxRecDepth 20000 in
theorem ggX7_draw_X7_in : GoodIn wsX7_draw wsX7_in := goodIn_r _ [11] (by decide +kernel) (by decide +kernel)
set_option maxRecDepth 20000 in
theorem gX7_draw_X7_in : GoodIn wsX7_draw (va_wsS RX7 52 yX7_in wsX7_in) := goodIn_app (goodIn_of _ (by decide +kernel)) ggX7_draw_X7_in
set_option maxRecDepth 20000 in
theorem ggX7_draw_X7_added : GoodIn wsX7_draw wsX7_added := goodIn_r _ [15, 16, 7, 17, 18, 19, 20, 21, 22, 23, 24, 25, 26, 27, 28, 29, 30, 31, 32, 33] (by decide +kernel) (by decide +kernel)
set_option maxRecDepth 20000 in
theorem gX7_draw_X7_added : GoodIn wsX7_draw (wsV RX7 58 RX7 yX7_added wsX7_added) := goodIn_app (goodIn_of _ (by decide +kernel)) ggX7_draw_X7_added
theorem dX7_draw_0 : decode cX7_draw 0 = .ok (.iload_n 1, 1) := by decide +kernel
theorem dX7_draw_1 : decode cX7_draw 1 = .ok (.i2l, 1) := by decide +kernel
theorem dX7_draw_2 : decode cX7_draw 2 = .ok (.lconst 0, 1) := by decide +kernel
theorem dX7_draw_3 : decode cX7_draw 3 = .ok (.ldc2_w 62, 3) := by decide +kernel
theorem dX7_draw_6 : decode cX7_draw 6 = .ok (.invokestatic 52, 3) := by decide +kernel
theorem dX7_draw_9 : decode cX7_draw 9 = .ok (.ifCond .eq 28, 3) := by decide +kernel
theorem dX7_draw_12 : decode cX7_draw 12 = .ok (.iload_n 2, 1) := by decide +kernel
theorem dX7_draw_13 : decode cX7_draw 13 = .ok (.i2l, 1) := by decide +kernel
theorem dX7_draw_14 : decode cX7_draw 14 = .ok (.lconst 0, 1) := by decide +kernel
theorem dX7_draw_15 : decode cX7_draw 15 = .ok (.ldc2_w 64, 3) := by decide +kernel
theorem dX7_draw_18 : decode cX7_draw 18 = .ok (.invokestatic 52, 3) := by decide +kernel
theorem dX7_draw_21 : decode cX7_draw 21 = .ok (.ifCond .eq 16, 3) := by decide +kernel
theorem dX7_draw_24 : decode cX7_draw 24 = .ok (.iload 4, 2) := by decide +kernel
theorem dX7_draw_26 : decode cX7_draw 26 = .ok (.i2l, 1) := by decide +kernel
theorem dX7_draw_27 : decode cX7_draw 27 = .ok (.lconst 1, 1) := by decide +kernel
theorem dX7_draw_28 : decode cX7_draw 28 = .ok (.ldc2_w 56, 3) := by decide +kernel
theorem dX7_draw_31 : decode cX7_draw 31 = .ok (.invokestatic 52, 3) := by decide +kernel
theorem dX7_draw_34 : decode cX7_draw 34 = .ok (.ifCond .ne 5, 3) := by decide +kernel
theorem dX7_draw_37 : decode cX7_draw 37 = .ok (.iconst (-1), 1) := by decide +kernel
theorem dX7_draw_38 : decode cX7_draw 38 = .ok (.ireturn, 1) := by decide +kernel
theorem dX7_draw_39 : decode cX7_draw 39 = .ok (.aload_n 0, 1) := by decide +kernel
theorem dX7_draw_40 : decode cX7_draw 40 = .ok (.getfield 17, 3) := by decide +kernel
theorem dX7_draw_43 : decode cX7_draw 43 = .ok (.iload_n 1, 1) := by decide +kernel
theorem dX7_draw_44 : decode cX7_draw 44 = .ok (.iaload, 1) := by decide +kernel
theorem dX7_draw_45 : decode cX7_draw 45 = .ok (.iload_n 2, 1) := by decide +kernel
theorem dX7_draw_46 : decode cX7_draw 46 = .ok (.if_icmp .eq 22, 3) := by decide +kernel
theorem dX7_draw_49 : decode cX7_draw 49 = .ok (.aload_n 0, 1) := by decide +kernel
theorem dX7_draw_50 : decode cX7_draw 50 = .ok (.getfield 17, 3) := by decide +kernel
theorem dX7_draw_53 : decode cX7_draw 53 = .ok (.iload_n 1, 1) := by decide +kernel
theorem dX7_draw_54 : decode cX7_draw 54 = .ok (.iaload, 1) := by decide +kernel
theorem dX7_draw_55 : decode cX7_draw 55 = .ok (.bipush (-4), 2) := by decide +kernel
theorem dX7_draw_57 : decode cX7_draw 57 = .ok (.if_icmp .ne 8, 3) := by decide +kernel
theorem dX7_draw_60 : decode cX7_draw 60 = .ok (.bipush (-11), 2) := by decide +kernel
theorem dX7_draw_62 : decode cX7_draw 62 = .ok (.goto 5, 3) := by decide +kernel
theorem dX7_draw_65 : decode cX7_draw 65 = .ok (.bipush (-13), 2) := by decide +kernel
theorem dX7_draw_67 : decode cX7_draw 67 = .ok (.ireturn, 1) := by decide +kernel
theorem dX7_draw_68 : decode cX7_draw 68 = .ok (.lconst 0, 1) := by decide +kernel
theorem dX7_draw_69 : decode cX7_draw 69 = .ok (.lstore 5, 2) := by decide +kernel
theorem dX7_draw_71 : decode cX7_draw 71 = .ok (.iconst 0, 1) := by decide +kernel
theorem dX7_draw_72 : decode cX7_draw 72 = .ok (.istore 7, 2) := by decide +kernel
theorem dX7_draw_74 : decode cX7_draw 74 = .ok (.iload 7, 2) := by decide +kernel
theorem dX7_draw_76 : decode cX7_draw 76 = .ok (.iload 4, 2) := by decide +kernel
theorem dX7_draw_78 : decode cX7_draw 78 = .ok (.if_icmp .ge 86, 3) := by decide +kernel
theorem dX7_draw_81 : decode cX7_draw 81 = .ok (.iload_n 3, 1) := by decide +kernel
theorem dX7_draw_82 : decode cX7_draw 82 = .ok (.i2l, 1) := by decide +kernel
theorem dX7_draw_83 : decode cX7_draw 83 = .ok (.iload 7, 2) := by decide +kernel
theorem dX7_draw_85 : decode cX7_draw 85 = .ok (.i2l, 1) := by decide +kernel
theorem dX7_draw_86 : decode cX7_draw 86 = .ok (.ladd, 1) := by decide +kernel
theorem dX7_draw_87 : decode cX7_draw 87 = .ok (.lconst 0, 1) := by decide +kernel
theorem dX7_draw_88 : decode cX7_draw 88 = .ok (.aload_n 0, 1) := by decide +kernel
theorem dX7_draw_89 : decode cX7_draw 89 = .ok (.getfield 20, 3) := by decide +kernel
theorem dX7_draw_92 : decode cX7_draw 92 = .ok (.iload_n 1, 1) := by decide +kernel
theorem dX7_draw_93 : decode cX7_draw 93 = .ok (.iaload, 1) := by decide +kernel
theorem dX7_draw_94 : decode cX7_draw 94 = .ok (.iconst 1, 1) := by decide +kernel
theorem dX7_draw_95 : decode cX7_draw 95 = .ok (.isub, 1) := by decide +kernel
theorem dX7_draw_96 : decode cX7_draw 96 = .ok (.i2l, 1) := by decide +kernel
theorem dX7_draw_97 : decode cX7_draw 97 = .ok (.invokestatic 52, 3) := by decide +kernel
theorem dX7_draw_100 : decode cX7_draw 100 = .ok (.ifCond .ne 6, 3) := by decide +kernel
theorem dX7_draw_103 : decode cX7_draw 103 = .ok (.bipush (-12), 2) := by decide +kernel
theorem dX7_draw_105 : decode cX7_draw 105 = .ok (.ireturn, 1) := by decide +kernel
theorem dX7_draw_106 : decode cX7_draw 106 = .ok (.aload_n 0, 1) := by decide +kernel
theorem dX7_draw_107 : decode cX7_draw 107 = .ok (.getfield 23, 3) := by decide +kernel
theorem dX7_draw_110 : decode cX7_draw 110 = .ok (.bipush 64, 2) := by decide +kernel
theorem dX7_draw_112 : decode cX7_draw 112 = .ok (.iload_n 1, 1) := by decide +kernel
theorem dX7_draw_113 : decode cX7_draw 113 = .ok (.imul, 1) := by decide +kernel
theorem dX7_draw_114 : decode cX7_draw 114 = .ok (.iload_n 3, 1) := by decide +kernel
theorem dX7_draw_115 : decode cX7_draw 115 = .ok (.iadd, 1) := by decide +kernel
theorem dX7_draw_116 : decode cX7_draw 116 = .ok (.iload 7, 2) := by decide +kernel
theorem dX7_draw_118 : decode cX7_draw 118 = .ok (.iadd, 1) := by decide +kernel
theorem dX7_draw_119 : decode cX7_draw 119 = .ok (.iaload, 1) := by decide +kernel
theorem dX7_draw_120 : decode cX7_draw 120 = .ok (.istore 8, 2) := by decide +kernel
theorem dX7_draw_122 : decode cX7_draw 122 = .ok (.iload 8, 2) := by decide +kernel
theorem dX7_draw_124 : decode cX7_draw 124 = .ok (.iconst 1, 1) := by decide +kernel
theorem dX7_draw_125 : decode cX7_draw 125 = .ok (.if_icmp .eq 15, 3) := by decide +kernel
theorem dX7_draw_128 : decode cX7_draw 128 = .ok (.iload 8, 2) := by decide +kernel
theorem dX7_draw_130 : decode cX7_draw 130 = .ok (.iconst (-1), 1) := by decide +kernel
theorem dX7_draw_131 : decode cX7_draw 131 = .ok (.if_icmp .eq 9, 3) := by decide +kernel
theorem dX7_draw_134 : decode cX7_draw 134 = .ok (.bipush (-20), 2) := by decide +kernel
theorem dX7_draw_136 : decode cX7_draw 136 = .ok (.iload 7, 2) := by decide +kernel
theorem dX7_draw_138 : decode cX7_draw 138 = .ok (.isub, 1) := by decide +kernel
theorem dX7_draw_139 : decode cX7_draw 139 = .ok (.ireturn, 1) := by decide +kernel
theorem dX7_draw_140 : decode cX7_draw 140 = .ok (.lload 5, 2) := by decide +kernel
theorem dX7_draw_142 : decode cX7_draw 142 = .ok (.iload 8, 2) := by decide +kernel
theorem dX7_draw_144 : decode cX7_draw 144 = .ok (.ifCond .ge 10, 3) := by decide +kernel
theorem dX7_draw_147 : decode cX7_draw 147 = .ok (.lconst 1, 1) := by decide +kernel
theorem dX7_draw_148 : decode cX7_draw 148 = .ok (.iload 7, 2) := by decide +kernel
theorem dX7_draw_150 : decode cX7_draw 150 = .ok (.lshl, 1) := by decide +kernel
theorem dX7_draw_151 : decode cX7_draw 151 = .ok (.goto 4, 3) := by decide +kernel
theorem dX7_draw_154 : decode cX7_draw 154 = .ok (.lconst 0, 1) := by decide +kernel
theorem dX7_draw_155 : decode cX7_draw 155 = .ok (.lor, 1) := by decide +kernel
theorem dX7_draw_156 : decode cX7_draw 156 = .ok (.lstore 5, 2) := by decide +kernel
theorem dX7_draw_158 : decode cX7_draw 158 = .ok (.iinc 7 1, 3) := by decide +kernel
theorem dX7_draw_161 : decode cX7_draw 161 = .ok (.goto (-87), 3) := by decide +kernel
theorem dX7_draw_164 : decode cX7_draw 164 = .ok (.aload_n 0, 1) := by decide +kernel
theorem dX7_draw_165 : decode cX7_draw 165 = .ok (.getfield 49, 3) := by decide +kernel
theorem dX7_draw_168 : decode cX7_draw 168 = .ok (.bipush 24, 2) := by decide +kernel
theorem dX7_draw_170 : decode cX7_draw 170 = .ok (.if_icmp .ne 8, 3) := by decide +kernel
theorem dX7_draw_173 : decode cX7_draw 173 = .ok (.bipush (-3), 2) := by decide +kernel
theorem dX7_draw_175 : decode cX7_draw 175 = .ok (.goto 11, 3) := by decide +kernel
theorem dX7_draw_178 : decode cX7_draw 178 = .ok (.aload_n 0, 1) := by decide +kernel
theorem dX7_draw_179 : decode cX7_draw 179 = .ok (.iload 4, 2) := by decide +kernel
theorem dX7_draw_181 : decode cX7_draw 181 = .ok (.lload 5, 2) := by decide +kernel
theorem dX7_draw_183 : decode cX7_draw 183 = .ok (.invokevirtual 58, 3) := by decide +kernel
theorem dX7_draw_186 : decode cX7_draw 186 = .ok (.ireturn, 1) := by decide +kernel
theorem dX7_drop_0 : decode cX7_drop 0 = .ok (.aload_n 0, 1) := by decide +kernel
theorem dX7_drop_1 : decode cX7_drop 1 = .ok (.getfield 49, 3) := by decide +kernel
theorem dX7_drop_4 : decode cX7_drop 4 = .ok (.ifCond .ne 6, 3) := by decide +kernel
theorem dX7_drop_7 : decode cX7_drop 7 = .ok (.bipush (-4), 2) := by decide +kernel
theorem dX7_drop_9 : decode cX7_drop 9 = .ok (.ireturn, 1) := by decide +kernel
theorem dX7_drop_10 : decode cX7_drop 10 = .ok (.aload_n 0, 1) := by decide +kernel
theorem dX7_drop_11 : decode cX7_drop 11 = .ok (.dup, 1) := by decide +kernel
theorem dX7_drop_12 : decode cX7_drop 12 = .ok (.getfield 49, 3) := by decide +kernel
theorem dX7_drop_15 : decode cX7_drop 15 = .ok (.iconst 1, 1) := by decide +kernel
theorem dX7_drop_16 : decode cX7_drop 16 = .ok (.isub, 1) := by decide +kernel
theorem dX7_drop_17 : decode cX7_drop 17 = .ok (.putfield 49, 3) := by decide +kernel
theorem dX7_drop_20 : decode cX7_drop 20 = .ok (.aload_n 0, 1) := by decide +kernel
theorem dX7_drop_21 : decode cX7_drop 21 = .ok (.getfield 49, 3) := by decide +kernel
theorem dX7_drop_24 : decode cX7_drop 24 = .ok (.ireturn, 1) := by decide +kernel
set_option maxRecDepth 20000 in
theorem ggX7_length_X7_is : GoodIn wsX7_length wsX7_is := goodIn_r _ [6, 7, 8, 9, 5, 10, 11, 12, 13, 14, 15, 16, 17, 18, 19, 20, 21, 22, 23, 24, 25, 26] (by decide +kernel) (by decide +kernel)
set_option maxRecDepth 20000 in
theorem gX7_length_X7_is : GoodIn wsX7_length (wsV RX7 66 RX7 yX7_is wsX7_is) := goodIn_app (goodIn_of _ (by decide +kernel)) ggX7_length_X7_is
theorem dX7_length_0 : decode cX7_length 0 = .ok (.aload_n 0, 1) := by decide +kernel
theorem dX7_length_1 : decode cX7_length 1 = .ok (.iload_n 1, 1) := by decide +kernel
theorem dX7_length_2 : decode cX7_length 2 = .ok (.invokevirtual 66, 3) := by decide +kernel
theorem dX7_length_5 : decode cX7_length 5 = .ok (.ifCond .eq 12, 3) := by decide +kernel
theorem dX7_length_8 : decode cX7_length 8 = .ok (.aload_n 0, 1) := by decide +kernel
theorem dX7_length_9 : decode cX7_length 9 = .ok (.getfield 7, 3) := by decide +kernel
theorem dX7_length_12 : decode cX7_length 12 = .ok (.iload_n 1, 1) := by decide +kernel
theorem dX7_length_13 : decode cX7_length 13 = .ok (.iaload, 1) := by decide +kernel
theorem dX7_length_14 : decode cX7_length 14 = .ok (.goto 4, 3) := by decide +kernel
theorem dX7_length_17 : decode cX7_length 17 = .ok (.iconst (-1), 1) := by decide +kernel
theorem dX7_length_18 : decode cX7_length 18 = .ok (.ireturn, 1) := by decide +kernel
set_option maxRecDepth 20000 in
theorem ggX7_place_X7_is : GoodIn wsX7_place wsX7_is := goodIn_r _ [7, 8, 9, 10, 6, 11, 15, 16, 17, 18, 19, 20, 21, 22, 23, 24, 25, 26, 27, 28, 29, 30] (by decide +kernel) (by decide +kernel)
set_option maxRecDepth 20000 in
theorem gX7_place_X7_is : GoodIn wsX7_place (wsV RX7 66 RX7 yX7_is wsX7_is) := goodIn_app (goodIn_of _ (by decide +kernel)) ggX7_place_X7_is
set_option maxRecDepth 20000 in
theorem ggX7_place_X7_in : GoodIn wsX7_place wsX7_in := goodIn_r _ [11] (by decide +kernel) (by decide +kernel)
set_option maxRecDepth 20000 in
theorem gX7_place_X7_in : GoodIn wsX7_place (va_wsS RX7 52 yX7_in wsX7_in) := goodIn_app (goodIn_of _ (by decide +kernel)) ggX7_place_X7_in
set_option maxRecDepth 20000 in
theorem ggX7_place_X7_at : GoodIn wsX7_place wsX7_at := goodIn_r _ [14] (by decide +kernel) (by decide +kernel)
set_option maxRecDepth 20000 in
theorem gX7_place_X7_at : GoodIn wsX7_place (va_wsS RX7 70 yX7_at wsX7_at) := goodIn_app (goodIn_of _ (by decide +kernel)) ggX7_place_X7_at
theorem dX7_place_0 : decode cX7_place 0 = .ok (.aload_n 0, 1) := by decide +kernel
theorem dX7_place_1 : decode cX7_place 1 = .ok (.iload_n 1, 1) := by decide +kernel
theorem dX7_place_2 : decode cX7_place 2 = .ok (.invokevirtual 66, 3) := by decide +kernel
theorem dX7_place_5 : decode cX7_place 5 = .ok (.ifCond .eq 34, 3) := by decide +kernel
theorem dX7_place_8 : decode cX7_place 8 = .ok (.iload_n 2, 1) := by decide +kernel
theorem dX7_place_9 : decode cX7_place 9 = .ok (.i2l, 1) := by decide +kernel
theorem dX7_place_10 : decode cX7_place 10 = .ok (.lconst 0, 1) := by decide +kernel
theorem dX7_place_11 : decode cX7_place 11 = .ok (.aload_n 0, 1) := by decide +kernel
theorem dX7_place_12 : decode cX7_place 12 = .ok (.getfield 7, 3) := by decide +kernel
theorem dX7_place_15 : decode cX7_place 15 = .ok (.iload_n 1, 1) := by decide +kernel
theorem dX7_place_16 : decode cX7_place 16 = .ok (.iaload, 1) := by decide +kernel
theorem dX7_place_17 : decode cX7_place 17 = .ok (.iconst 1, 1) := by decide +kernel
theorem dX7_place_18 : decode cX7_place 18 = .ok (.isub, 1) := by decide +kernel
theorem dX7_place_19 : decode cX7_place 19 = .ok (.i2l, 1) := by decide +kernel
theorem dX7_place_20 : decode cX7_place 20 = .ok (.invokestatic 52, 3) := by decide +kernel
theorem dX7_place_23 : decode cX7_place 23 = .ok (.ifCond .eq 16, 3) := by decide +kernel
theorem dX7_place_26 : decode cX7_place 26 = .ok (.aload_n 0, 1) := by decide +kernel
theorem dX7_place_27 : decode cX7_place 27 = .ok (.getfield 13, 3) := by decide +kernel
theorem dX7_place_30 : decode cX7_place 30 = .ok (.iload_n 1, 1) := by decide +kernel
theorem dX7_place_31 : decode cX7_place 31 = .ok (.laload, 1) := by decide +kernel
theorem dX7_place_32 : decode cX7_place 32 = .ok (.iload_n 2, 1) := by decide +kernel
theorem dX7_place_33 : decode cX7_place 33 = .ok (.invokestatic 70, 3) := by decide +kernel
theorem dX7_place_36 : decode cX7_place 36 = .ok (.goto 4, 3) := by decide +kernel
theorem dX7_place_39 : decode cX7_place 39 = .ok (.iconst 0, 1) := by decide +kernel
theorem dX7_place_40 : decode cX7_place 40 = .ok (.ireturn, 1) := by decide +kernel
set_option maxRecDepth 20000 in
theorem ggX7_number_X7_is : GoodIn wsX7_number wsX7_is := goodIn_r _ [7, 8, 9, 10, 6, 11, 12, 13, 14, 15, 16, 17, 18, 19, 20, 21, 22, 23, 24, 25, 26, 27] (by decide +kernel) (by decide +kernel)
set_option maxRecDepth 20000 in
theorem gX7_number_X7_is : GoodIn wsX7_number (wsV RX7 66 RX7 yX7_is wsX7_is) := goodIn_app (goodIn_of _ (by decide +kernel)) ggX7_number_X7_is
theorem dX7_number_0 : decode cX7_number 0 = .ok (.aload_n 0, 1) := by decide +kernel
theorem dX7_number_1 : decode cX7_number 1 = .ok (.iload_n 1, 1) := by decide +kernel
theorem dX7_number_2 : decode cX7_number 2 = .ok (.invokevirtual 66, 3) := by decide +kernel
theorem dX7_number_5 : decode cX7_number 5 = .ok (.ifCond .eq 12, 3) := by decide +kernel
theorem dX7_number_8 : decode cX7_number 8 = .ok (.aload_n 0, 1) := by decide +kernel
theorem dX7_number_9 : decode cX7_number 9 = .ok (.getfield 13, 3) := by decide +kernel
theorem dX7_number_12 : decode cX7_number 12 = .ok (.iload_n 1, 1) := by decide +kernel
theorem dX7_number_13 : decode cX7_number 13 = .ok (.laload, 1) := by decide +kernel
theorem dX7_number_14 : decode cX7_number 14 = .ok (.goto 6, 3) := by decide +kernel
theorem dX7_number_17 : decode cX7_number 17 = .ok (.ldc2_w 74, 3) := by decide +kernel
theorem dX7_number_20 : decode cX7_number 20 = .ok (.lreturn, 1) := by decide +kernel
set_option maxRecDepth 20000 in
theorem ggX7_openOf_X7_at : GoodIn wsX7_openOf wsX7_at := goodIn_r _ [4] (by decide +kernel) (by decide +kernel)
set_option maxRecDepth 20000 in
theorem gX7_openOf_X7_at : GoodIn wsX7_openOf (va_wsS RX7 70 yX7_at wsX7_at) := goodIn_app (goodIn_of _ (by decide +kernel)) ggX7_openOf_X7_at
theorem dX7_openOf_0 : decode cX7_openOf 0 = .ok (.iconst 0, 1) := by decide +kernel
theorem dX7_openOf_1 : decode cX7_openOf 1 = .ok (.istore 4, 2) := by decide +kernel
theorem dX7_openOf_3 : decode cX7_openOf 3 = .ok (.iconst 0, 1) := by decide +kernel
theorem dX7_openOf_4 : decode cX7_openOf 4 = .ok (.istore 5, 2) := by decide +kernel
theorem dX7_openOf_6 : decode cX7_openOf 6 = .ok (.iload 5, 2) := by decide +kernel
theorem dX7_openOf_8 : decode cX7_openOf 8 = .ok (.iload_n 3, 1) := by decide +kernel
theorem dX7_openOf_9 : decode cX7_openOf 9 = .ok (.iadd, 1) := by decide +kernel
theorem dX7_openOf_10 : decode cX7_openOf 10 = .ok (.iload_n 0, 1) := by decide +kernel
theorem dX7_openOf_11 : decode cX7_openOf 11 = .ok (.if_icmp .ge 29, 3) := by decide +kernel
theorem dX7_openOf_14 : decode cX7_openOf 14 = .ok (.iload 4, 2) := by decide +kernel
theorem dX7_openOf_16 : decode cX7_openOf 16 = .ok (.lload_n 1, 1) := by decide +kernel
theorem dX7_openOf_17 : decode cX7_openOf 17 = .ok (.iload 5, 2) := by decide +kernel
theorem dX7_openOf_19 : decode cX7_openOf 19 = .ok (.invokestatic 70, 3) := by decide +kernel
theorem dX7_openOf_22 : decode cX7_openOf 22 = .ok (.lload_n 1, 1) := by decide +kernel
theorem dX7_openOf_23 : decode cX7_openOf 23 = .ok (.iload 5, 2) := by decide +kernel
theorem dX7_openOf_25 : decode cX7_openOf 25 = .ok (.iload_n 3, 1) := by decide +kernel
theorem dX7_openOf_26 : decode cX7_openOf 26 = .ok (.iadd, 1) := by decide +kernel
theorem dX7_openOf_27 : decode cX7_openOf 27 = .ok (.invokestatic 70, 3) := by decide +kernel
theorem dX7_openOf_30 : decode cX7_openOf 30 = .ok (.imul, 1) := by decide +kernel
theorem dX7_openOf_31 : decode cX7_openOf 31 = .ok (.iadd, 1) := by decide +kernel
theorem dX7_openOf_32 : decode cX7_openOf 32 = .ok (.istore 4, 2) := by decide +kernel
theorem dX7_openOf_34 : decode cX7_openOf 34 = .ok (.iinc 5 1, 3) := by decide +kernel
theorem dX7_openOf_37 : decode cX7_openOf 37 = .ok (.goto (-31), 3) := by decide +kernel
theorem dX7_openOf_40 : decode cX7_openOf 40 = .ok (.iload 4, 2) := by decide +kernel
theorem dX7_openOf_42 : decode cX7_openOf 42 = .ok (.ireturn, 1) := by decide +kernel
set_option maxRecDepth 20000 in
theorem ggX7_roundOf_X7_at : GoodIn wsX7_roundOf wsX7_at := goodIn_r _ [4] (by decide +kernel) (by decide +kernel)
set_option maxRecDepth 20000 in
theorem gX7_roundOf_X7_at : GoodIn wsX7_roundOf (va_wsS RX7 70 yX7_at wsX7_at) := goodIn_app (goodIn_of _ (by decide +kernel)) ggX7_roundOf_X7_at
theorem dX7_roundOf_0 : decode cX7_roundOf 0 = .ok (.iconst 0, 1) := by decide +kernel
theorem dX7_roundOf_1 : decode cX7_roundOf 1 = .ok (.istore 4, 2) := by decide +kernel
theorem dX7_roundOf_3 : decode cX7_roundOf 3 = .ok (.iconst 0, 1) := by decide +kernel
theorem dX7_roundOf_4 : decode cX7_roundOf 4 = .ok (.istore 5, 2) := by decide +kernel
theorem dX7_roundOf_6 : decode cX7_roundOf 6 = .ok (.iload 5, 2) := by decide +kernel
theorem dX7_roundOf_8 : decode cX7_roundOf 8 = .ok (.iload_n 0, 1) := by decide +kernel
theorem dX7_roundOf_9 : decode cX7_roundOf 9 = .ok (.if_icmp .ge 31, 3) := by decide +kernel
theorem dX7_roundOf_12 : decode cX7_roundOf 12 = .ok (.iload 4, 2) := by decide +kernel
theorem dX7_roundOf_14 : decode cX7_roundOf 14 = .ok (.lload_n 1, 1) := by decide +kernel
theorem dX7_roundOf_15 : decode cX7_roundOf 15 = .ok (.iload 5, 2) := by decide +kernel
theorem dX7_roundOf_17 : decode cX7_roundOf 17 = .ok (.invokestatic 70, 3) := by decide +kernel
theorem dX7_roundOf_20 : decode cX7_roundOf 20 = .ok (.lload_n 1, 1) := by decide +kernel
theorem dX7_roundOf_21 : decode cX7_roundOf 21 = .ok (.iload 5, 2) := by decide +kernel
theorem dX7_roundOf_23 : decode cX7_roundOf 23 = .ok (.iload_n 3, 1) := by decide +kernel
theorem dX7_roundOf_24 : decode cX7_roundOf 24 = .ok (.iadd, 1) := by decide +kernel
theorem dX7_roundOf_25 : decode cX7_roundOf 25 = .ok (.iload_n 0, 1) := by decide +kernel
theorem dX7_roundOf_26 : decode cX7_roundOf 26 = .ok (.irem, 1) := by decide +kernel
theorem dX7_roundOf_27 : decode cX7_roundOf 27 = .ok (.invokestatic 70, 3) := by decide +kernel
theorem dX7_roundOf_30 : decode cX7_roundOf 30 = .ok (.imul, 1) := by decide +kernel
theorem dX7_roundOf_31 : decode cX7_roundOf 31 = .ok (.iadd, 1) := by decide +kernel
theorem dX7_roundOf_32 : decode cX7_roundOf 32 = .ok (.istore 4, 2) := by decide +kernel
theorem dX7_roundOf_34 : decode cX7_roundOf 34 = .ok (.iinc 5 1, 3) := by decide +kernel
theorem dX7_roundOf_37 : decode cX7_roundOf 37 = .ok (.goto (-31), 3) := by decide +kernel
theorem dX7_roundOf_40 : decode cX7_roundOf 40 = .ok (.iload 4, 2) := by decide +kernel
theorem dX7_roundOf_42 : decode cX7_roundOf 42 = .ok (.ireturn, 1) := by decide +kernel
set_option maxRecDepth 20000 in
theorem ggX7_open_X7_is : GoodIn wsX7_open wsX7_is := goodIn_r _ [7, 8, 9, 10, 6, 11, 18, 19, 20, 21, 22, 23, 24, 25, 26, 27, 28, 29, 30, 31, 32, 33] (by decide +kernel) (by decide +kernel)
set_option maxRecDepth 20000 in
theorem gX7_open_X7_is : GoodIn wsX7_open (wsV RX7 66 RX7 yX7_is wsX7_is) := goodIn_app (goodIn_of _ (by decide +kernel)) ggX7_open_X7_is
set_option maxRecDepth 20000 in
theorem ggX7_open_X7_in : GoodIn wsX7_open wsX7_in := goodIn_r _ [11] (by decide +kernel) (by decide +kernel)
set_option maxRecDepth 20000 in
theorem gX7_open_X7_in : GoodIn wsX7_open (va_wsS RX7 52 yX7_in wsX7_in) := goodIn_app (goodIn_of _ (by decide +kernel)) ggX7_open_X7_in
set_option maxRecDepth 20000 in
theorem ggX7_open_X7_openOf : GoodIn wsX7_open wsX7_openOf := goodIn_r _ [14, 15, 16, 6, 17] (by decide +kernel) (by decide +kernel)
set_option maxRecDepth 20000 in
theorem gX7_open_X7_openOf : GoodIn wsX7_open (va_wsS RX7 76 yX7_openOf wsX7_openOf) := goodIn_app (goodIn_of _ (by decide +kernel)) ggX7_open_X7_openOf
theorem dX7_open_0 : decode cX7_open 0 = .ok (.aload_n 0, 1) := by decide +kernel
theorem dX7_open_1 : decode cX7_open 1 = .ok (.iload_n 1, 1) := by decide +kernel
theorem dX7_open_2 : decode cX7_open 2 = .ok (.invokevirtual 66, 3) := by decide +kernel
theorem dX7_open_5 : decode cX7_open 5 = .ok (.ifCond .eq 40, 3) := by decide +kernel
theorem dX7_open_8 : decode cX7_open 8 = .ok (.iload_n 2, 1) := by decide +kernel
theorem dX7_open_9 : decode cX7_open 9 = .ok (.i2l, 1) := by decide +kernel
theorem dX7_open_10 : decode cX7_open 10 = .ok (.lconst 0, 1) := by decide +kernel
theorem dX7_open_11 : decode cX7_open 11 = .ok (.aload_n 0, 1) := by decide +kernel
theorem dX7_open_12 : decode cX7_open 12 = .ok (.getfield 7, 3) := by decide +kernel
theorem dX7_open_15 : decode cX7_open 15 = .ok (.iload_n 1, 1) := by decide +kernel
theorem dX7_open_16 : decode cX7_open 16 = .ok (.iaload, 1) := by decide +kernel
theorem dX7_open_17 : decode cX7_open 17 = .ok (.iconst 1, 1) := by decide +kernel
theorem dX7_open_18 : decode cX7_open 18 = .ok (.isub, 1) := by decide +kernel
theorem dX7_open_19 : decode cX7_open 19 = .ok (.i2l, 1) := by decide +kernel
theorem dX7_open_20 : decode cX7_open 20 = .ok (.invokestatic 52, 3) := by decide +kernel
theorem dX7_open_23 : decode cX7_open 23 = .ok (.ifCond .eq 22, 3) := by decide +kernel
theorem dX7_open_26 : decode cX7_open 26 = .ok (.aload_n 0, 1) := by decide +kernel
theorem dX7_open_27 : decode cX7_open 27 = .ok (.getfield 7, 3) := by decide +kernel
theorem dX7_open_30 : decode cX7_open 30 = .ok (.iload_n 1, 1) := by decide +kernel
theorem dX7_open_31 : decode cX7_open 31 = .ok (.iaload, 1) := by decide +kernel
theorem dX7_open_32 : decode cX7_open 32 = .ok (.aload_n 0, 1) := by decide +kernel
theorem dX7_open_33 : decode cX7_open 33 = .ok (.getfield 13, 3) := by decide +kernel
theorem dX7_open_36 : decode cX7_open 36 = .ok (.iload_n 1, 1) := by decide +kernel
theorem dX7_open_37 : decode cX7_open 37 = .ok (.laload, 1) := by decide +kernel
theorem dX7_open_38 : decode cX7_open 38 = .ok (.iload_n 2, 1) := by decide +kernel
theorem dX7_open_39 : decode cX7_open 39 = .ok (.invokestatic 76, 3) := by decide +kernel
theorem dX7_open_42 : decode cX7_open 42 = .ok (.goto 6, 3) := by decide +kernel
theorem dX7_open_45 : decode cX7_open 45 = .ok (.sipush 1000, 3) := by decide +kernel
theorem dX7_open_48 : decode cX7_open 48 = .ok (.ireturn, 1) := by decide +kernel
set_option maxRecDepth 20000 in
theorem ggX7_round_X7_is : GoodIn wsX7_round wsX7_is := goodIn_r _ [7, 8, 9, 10, 6, 11, 18, 19, 20, 21, 22, 23, 24, 25, 26, 27, 28, 29, 30, 31, 32, 33] (by decide +kernel) (by decide +kernel)
set_option maxRecDepth 20000 in
theorem gX7_round_X7_is : GoodIn wsX7_round (wsV RX7 66 RX7 yX7_is wsX7_is) := goodIn_app (goodIn_of _ (by decide +kernel)) ggX7_round_X7_is
set_option maxRecDepth 20000 in
theorem ggX7_round_X7_in : GoodIn wsX7_round wsX7_in := goodIn_r _ [11] (by decide +kernel) (by decide +kernel)
set_option maxRecDepth 20000 in
theorem gX7_round_X7_in : GoodIn wsX7_round (va_wsS RX7 52 yX7_in wsX7_in) := goodIn_app (goodIn_of _ (by decide +kernel)) ggX7_round_X7_in
set_option maxRecDepth 20000 in
theorem ggX7_round_X7_roundOf : GoodIn wsX7_round wsX7_roundOf := goodIn_r _ [14, 15, 16, 6, 17] (by decide +kernel) (by decide +kernel)
set_option maxRecDepth 20000 in
theorem gX7_round_X7_roundOf : GoodIn wsX7_round (va_wsS RX7 80 yX7_roundOf wsX7_roundOf) := goodIn_app (goodIn_of _ (by decide +kernel)) ggX7_round_X7_roundOf
theorem dX7_round_0 : decode cX7_round 0 = .ok (.aload_n 0, 1) := by decide +kernel
theorem dX7_round_1 : decode cX7_round 1 = .ok (.iload_n 1, 1) := by decide +kernel
theorem dX7_round_2 : decode cX7_round 2 = .ok (.invokevirtual 66, 3) := by decide +kernel
theorem dX7_round_5 : decode cX7_round 5 = .ok (.ifCond .eq 40, 3) := by decide +kernel
theorem dX7_round_8 : decode cX7_round 8 = .ok (.iload_n 2, 1) := by decide +kernel
theorem dX7_round_9 : decode cX7_round 9 = .ok (.i2l, 1) := by decide +kernel
theorem dX7_round_10 : decode cX7_round 10 = .ok (.lconst 0, 1) := by decide +kernel
theorem dX7_round_11 : decode cX7_round 11 = .ok (.aload_n 0, 1) := by decide +kernel
theorem dX7_round_12 : decode cX7_round 12 = .ok (.getfield 7, 3) := by decide +kernel
theorem dX7_round_15 : decode cX7_round 15 = .ok (.iload_n 1, 1) := by decide +kernel
theorem dX7_round_16 : decode cX7_round 16 = .ok (.iaload, 1) := by decide +kernel
theorem dX7_round_17 : decode cX7_round 17 = .ok (.iconst 1, 1) := by decide +kernel
theorem dX7_round_18 : decode cX7_round 18 = .ok (.isub, 1) := by decide +kernel
theorem dX7_round_19 : decode cX7_round 19 = .ok (.i2l, 1) := by decide +kernel
theorem dX7_round_20 : decode cX7_round 20 = .ok (.invokestatic 52, 3) := by decide +kernel
theorem dX7_round_23 : decode cX7_round 23 = .ok (.ifCond .eq 22, 3) := by decide +kernel
theorem dX7_round_26 : decode cX7_round 26 = .ok (.aload_n 0, 1) := by decide +kernel
theorem dX7_round_27 : decode cX7_round 27 = .ok (.getfield 7, 3) := by decide +kernel
theorem dX7_round_30 : decode cX7_round 30 = .ok (.iload_n 1, 1) := by decide +kernel
theorem dX7_round_31 : decode cX7_round 31 = .ok (.iaload, 1) := by decide +kernel
theorem dX7_round_32 : decode cX7_round 32 = .ok (.aload_n 0, 1) := by decide +kernel
theorem dX7_round_33 : decode cX7_round 33 = .ok (.getfield 13, 3) := by decide +kernel
theorem dX7_round_36 : decode cX7_round 36 = .ok (.iload_n 1, 1) := by decide +kernel
theorem dX7_round_37 : decode cX7_round 37 = .ok (.laload, 1) := by decide +kernel
theorem dX7_round_38 : decode cX7_round 38 = .ok (.iload_n 2, 1) := by decide +kernel
theorem dX7_round_39 : decode cX7_round 39 = .ok (.invokestatic 80, 3) := by decide +kernel
theorem dX7_round_42 : decode cX7_round 42 = .ok (.goto 6, 3) := by decide +kernel
theorem dX7_round_45 : decode cX7_round 45 = .ok (.sipush 1000, 3) := by decide +kernel
theorem dX7_round_48 : decode cX7_round 48 = .ok (.ireturn, 1) := by decide +kernel
set_option maxRecDepth 20000 in
theorem ggX7_peakOf_X7_openOf : GoodIn wsX7_peakOf wsX7_openOf := goodIn_r _ [4, 5, 6, 3, 7] (by decide +kernel) (by decide +kernel)
set_option maxRecDepth 20000 in
theorem gX7_peakOf_X7_openOf : GoodIn wsX7_peakOf (va_wsS RX7 76 yX7_openOf wsX7_openOf) := goodIn_app (goodIn_of _ (by decide +kernel)) ggX7_peakOf_X7_openOf
theorem dX7_peakOf_0 : decode cX7_peakOf 0 = .ok (.iconst 0, 1) := by decide +kernel
theorem dX7_peakOf_1 : decode cX7_peakOf 1 = .ok (.istore_n 3, 1) := by decide +kernel
theorem dX7_peakOf_2 : decode cX7_peakOf 2 = .ok (.iconst 1, 1) := by decide +kernel
theorem dX7_peakOf_3 : decode cX7_peakOf 3 = .ok (.istore 4, 2) := by decide +kernel
theorem dX7_peakOf_5 : decode cX7_peakOf 5 = .ok (.iload 4, 2) := by decide +kernel
theorem dX7_peakOf_7 : decode cX7_peakOf 7 = .ok (.iload_n 0, 1) := by decide +kernel
theorem dX7_peakOf_8 : decode cX7_peakOf 8 = .ok (.if_icmp .ge 46, 3) := by decide +kernel
theorem dX7_peakOf_11 : decode cX7_peakOf 11 = .ok (.iload_n 0, 1) := by decide +kernel
theorem dX7_peakOf_12 : decode cX7_peakOf 12 = .ok (.lload_n 1, 1) := by decide +kernel
theorem dX7_peakOf_13 : decode cX7_peakOf 13 = .ok (.iload 4, 2) := by decide +kernel
theorem dX7_peakOf_15 : decode cX7_peakOf 15 = .ok (.invokestatic 76, 3) := by decide +kernel
theorem dX7_peakOf_18 : decode cX7_peakOf 18 = .ok (.istore 5, 2) := by decide +kernel
theorem dX7_peakOf_20 : decode cX7_peakOf 20 = .ok (.iload 5, 2) := by decide +kernel
theorem dX7_peakOf_22 : decode cX7_peakOf 22 = .ok (.ifCond .ge 9, 3) := by decide +kernel
theorem dX7_peakOf_25 : decode cX7_peakOf 25 = .ok (.iload 5, 2) := by decide +kernel
theorem dX7_peakOf_27 : decode cX7_peakOf 27 = .ok (.ineg, 1) := by decide +kernel
theorem dX7_peakOf_28 : decode cX7_peakOf 28 = .ok (.goto 5, 3) := by decide +kernel
theorem dX7_peakOf_31 : decode cX7_peakOf 31 = .ok (.iload 5, 2) := by decide +kernel
theorem dX7_peakOf_33 : decode cX7_peakOf 33 = .ok (.istore 5, 2) := by decide +kernel
theorem dX7_peakOf_35 : decode cX7_peakOf 35 = .ok (.iload 5, 2) := by decide +kernel
theorem dX7_peakOf_37 : decode cX7_peakOf 37 = .ok (.iload_n 3, 1) := by decide +kernel
theorem dX7_peakOf_38 : decode cX7_peakOf 38 = .ok (.if_icmp .le 8, 3) := by decide +kernel
theorem dX7_peakOf_41 : decode cX7_peakOf 41 = .ok (.iload 5, 2) := by decide +kernel
theorem dX7_peakOf_43 : decode cX7_peakOf 43 = .ok (.goto 4, 3) := by decide +kernel
theorem dX7_peakOf_46 : decode cX7_peakOf 46 = .ok (.iload_n 3, 1) := by decide +kernel
theorem dX7_peakOf_47 : decode cX7_peakOf 47 = .ok (.istore_n 3, 1) := by decide +kernel
theorem dX7_peakOf_48 : decode cX7_peakOf 48 = .ok (.iinc 4 1, 3) := by decide +kernel
theorem dX7_peakOf_51 : decode cX7_peakOf 51 = .ok (.goto (-46), 3) := by decide +kernel
theorem dX7_peakOf_54 : decode cX7_peakOf 54 = .ok (.iload_n 3, 1) := by decide +kernel
theorem dX7_peakOf_55 : decode cX7_peakOf 55 = .ok (.ireturn, 1) := by decide +kernel
set_option maxRecDepth 20000 in
theorem ggX7_energyOf_X7_openOf : GoodIn wsX7_energyOf wsX7_openOf := goodIn_r _ [4, 5, 6, 3, 7] (by decide +kernel) (by decide +kernel)
set_option maxRecDepth 20000 in
theorem gX7_energyOf_X7_openOf : GoodIn wsX7_energyOf (va_wsS RX7 76 yX7_openOf wsX7_openOf) := goodIn_app (goodIn_of _ (by decide +kernel)) ggX7_energyOf_X7_openOf
theorem dX7_energyOf_0 : decode cX7_energyOf 0 = .ok (.iconst 0, 1) := by decide +kernel
theorem dX7_energyOf_1 : decode cX7_energyOf 1 = .ok (.istore_n 3, 1) := by decide +kernel
theorem dX7_energyOf_2 : decode cX7_energyOf 2 = .ok (.iconst 1, 1) := by decide +kernel
theorem dX7_energyOf_3 : decode cX7_energyOf 3 = .ok (.istore 4, 2) := by decide +kernel
theorem dX7_energyOf_5 : decode cX7_energyOf 5 = .ok (.iload 4, 2) := by decide +kernel
theorem dX7_energyOf_7 : decode cX7_energyOf 7 = .ok (.iload_n 0, 1) := by decide +kernel
theorem dX7_energyOf_8 : decode cX7_energyOf 8 = .ok (.if_icmp .ge 26, 3) := by decide +kernel
theorem dX7_energyOf_11 : decode cX7_energyOf 11 = .ok (.iload_n 0, 1) := by decide +kernel
theorem dX7_energyOf_12 : decode cX7_energyOf 12 = .ok (.lload_n 1, 1) := by decide +kernel
theorem dX7_energyOf_13 : decode cX7_energyOf 13 = .ok (.iload 4, 2) := by decide +kernel
theorem dX7_energyOf_15 : decode cX7_energyOf 15 = .ok (.invokestatic 76, 3) := by decide +kernel
theorem dX7_energyOf_18 : decode cX7_energyOf 18 = .ok (.istore 5, 2) := by decide +kernel
theorem dX7_energyOf_20 : decode cX7_energyOf 20 = .ok (.iload_n 3, 1) := by decide +kernel
theorem dX7_energyOf_21 : decode cX7_energyOf 21 = .ok (.iload 5, 2) := by decide +kernel
theorem dX7_energyOf_23 : decode cX7_energyOf 23 = .ok (.iload 5, 2) := by decide +kernel
theorem dX7_energyOf_25 : decode cX7_energyOf 25 = .ok (.imul, 1) := by decide +kernel
theorem dX7_energyOf_26 : decode cX7_energyOf 26 = .ok (.iadd, 1) := by decide +kernel
theorem dX7_energyOf_27 : decode cX7_energyOf 27 = .ok (.istore_n 3, 1) := by decide +kernel
theorem dX7_energyOf_28 : decode cX7_energyOf 28 = .ok (.iinc 4 1, 3) := by decide +kernel
theorem dX7_energyOf_31 : decode cX7_energyOf 31 = .ok (.goto (-26), 3) := by decide +kernel
theorem dX7_energyOf_34 : decode cX7_energyOf 34 = .ok (.iload_n 3, 1) := by decide +kernel
theorem dX7_energyOf_35 : decode cX7_energyOf 35 = .ok (.ireturn, 1) := by decide +kernel
set_option maxRecDepth 20000 in
theorem ggX7_turned_X7_at : GoodIn wsX7_turned wsX7_at := goodIn_r _ [4] (by decide +kernel) (by decide +kernel)
set_option maxRecDepth 20000 in
theorem gX7_turned_X7_at : GoodIn wsX7_turned (va_wsS RX7 70 yX7_at wsX7_at) := goodIn_app (goodIn_of _ (by decide +kernel)) ggX7_turned_X7_at
theorem dX7_turned_0 : decode cX7_turned 0 = .ok (.lconst 0, 1) := by decide +kernel
theorem dX7_turned_1 : decode cX7_turned 1 = .ok (.lstore 4, 2) := by decide +kernel
theorem dX7_turned_3 : decode cX7_turned 3 = .ok (.iconst 0, 1) := by decide +kernel
theorem dX7_turned_4 : decode cX7_turned 4 = .ok (.istore 6, 2) := by decide +kernel
theorem dX7_turned_6 : decode cX7_turned 6 = .ok (.iload 6, 2) := by decide +kernel
theorem dX7_turned_8 : decode cX7_turned 8 = .ok (.iload_n 0, 1) := by decide +kernel
theorem dX7_turned_9 : decode cX7_turned 9 = .ok (.if_icmp .ge 80, 3) := by decide +kernel
theorem dX7_turned_12 : decode cX7_turned 12 = .ok (.iload_n 3, 1) := by decide +kernel
theorem dX7_turned_13 : decode cX7_turned 13 = .ok (.ifCond .ne 12, 3) := by decide +kernel
theorem dX7_turned_16 : decode cX7_turned 16 = .ok (.iload_n 0, 1) := by decide +kernel
theorem dX7_turned_17 : decode cX7_turned 17 = .ok (.iconst 1, 1) := by decide +kernel
theorem dX7_turned_18 : decode cX7_turned 18 = .ok (.isub, 1) := by decide +kernel
theorem dX7_turned_19 : decode cX7_turned 19 = .ok (.iload 6, 2) := by decide +kernel
theorem dX7_turned_21 : decode cX7_turned 21 = .ok (.isub, 1) := by decide +kernel
theorem dX7_turned_22 : decode cX7_turned 22 = .ok (.goto 5, 3) := by decide +kernel
theorem dX7_turned_25 : decode cX7_turned 25 = .ok (.iload 6, 2) := by decide +kernel
theorem dX7_turned_27 : decode cX7_turned 27 = .ok (.istore 7, 2) := by decide +kernel
theorem dX7_turned_29 : decode cX7_turned 29 = .ok (.lload_n 1, 1) := by decide +kernel
theorem dX7_turned_30 : decode cX7_turned 30 = .ok (.iload 7, 2) := by decide +kernel
theorem dX7_turned_32 : decode cX7_turned 32 = .ok (.invokestatic 70, 3) := by decide +kernel
theorem dX7_turned_35 : decode cX7_turned 35 = .ok (.istore 8, 2) := by decide +kernel
theorem dX7_turned_37 : decode cX7_turned 37 = .ok (.iload_n 3, 1) := by decide +kernel
theorem dX7_turned_38 : decode cX7_turned 38 = .ok (.iconst 1, 1) := by decide +kernel
theorem dX7_turned_39 : decode cX7_turned 39 = .ok (.if_icmp .eq 16, 3) := by decide +kernel
theorem dX7_turned_42 : decode cX7_turned 42 = .ok (.iload_n 3, 1) := by decide +kernel
theorem dX7_turned_43 : decode cX7_turned 43 = .ok (.iconst 2, 1) := by decide +kernel
theorem dX7_turned_44 : decode cX7_turned 44 = .ok (.if_icmp .ne 17, 3) := by decide +kernel
theorem dX7_turned_47 : decode cX7_turned 47 = .ok (.iload 6, 2) := by decide +kernel
theorem dX7_turned_49 : decode cX7_turned 49 = .ok (.iconst 2, 1) := by decide +kernel
theorem dX7_turned_50 : decode cX7_turned 50 = .ok (.irem, 1) := by decide +kernel
theorem dX7_turned_51 : decode cX7_turned 51 = .ok (.iconst 1, 1) := by decide +kernel
theorem dX7_turned_52 : decode cX7_turned 52 = .ok (.if_icmp .ne 9, 3) := by decide +kernel
theorem dX7_turned_55 : decode cX7_turned 55 = .ok (.iload 8, 2) := by decide +kernel
theorem dX7_turned_57 : decode cX7_turned 57 = .ok (.ineg, 1) := by decide +kernel
theorem dX7_turned_58 : decode cX7_turned 58 = .ok (.goto 5, 3) := by decide +kernel
theorem dX7_turned_61 : decode cX7_turned 61 = .ok (.iload 8, 2) := by decide +kernel
theorem dX7_turned_63 : decode cX7_turned 63 = .ok (.istore 8, 2) := by decide +kernel
theorem dX7_turned_65 : decode cX7_turned 65 = .ok (.lload 4, 2) := by decide +kernel
theorem dX7_turned_67 : decode cX7_turned 67 = .ok (.iload 8, 2) := by decide +kernel
theorem dX7_turned_69 : decode cX7_turned 69 = .ok (.ifCond .ge 10, 3) := by decide +kernel
theorem dX7_turned_72 : decode cX7_turned 72 = .ok (.lconst 1, 1) := by decide +kernel
theorem dX7_turned_73 : decode cX7_turned 73 = .ok (.iload 6, 2) := by decide +kernel
theorem dX7_turned_75 : decode cX7_turned 75 = .ok (.lshl, 1) := by decide +kernel
theorem dX7_turned_76 : decode cX7_turned 76 = .ok (.goto 4, 3) := by decide +kernel
theorem dX7_turned_79 : decode cX7_turned 79 = .ok (.lconst 0, 1) := by decide +kernel
theorem dX7_turned_80 : decode cX7_turned 80 = .ok (.lor, 1) := by decide +kernel
theorem dX7_turned_81 : decode cX7_turned 81 = .ok (.lstore 4, 2) := by decide +kernel
theorem dX7_turned_83 : decode cX7_turned 83 = .ok (.iinc 6 1, 3) := by decide +kernel
theorem dX7_turned_86 : decode cX7_turned 86 = .ok (.goto (-80), 3) := by decide +kernel
theorem dX7_turned_89 : decode cX7_turned 89 = .ok (.lload 4, 2) := by decide +kernel
theorem dX7_turned_91 : decode cX7_turned 91 = .ok (.lreturn, 1) := by decide +kernel
set_option maxRecDepth 20000 in
theorem ggX7_turns_X7_turned : GoodIn wsX7_turns wsX7_turned := goodIn_r _ [6, 7, 8, 5, 9] (by decide +kernel) (by decide +kernel)
set_option maxRecDepth 20000 in
theorem gX7_turns_X7_turned : GoodIn wsX7_turns (va_wsS RX7 86 yX7_turned wsX7_turned) := goodIn_app (goodIn_of _ (by decide +kernel)) ggX7_turns_X7_turned
theorem dX7_turns_0 : decode cX7_turns 0 = .ok (.aload_n 0, 1) := by decide +kernel
theorem dX7_turns_1 : decode cX7_turns 1 = .ok (.getfield 26, 3) := by decide +kernel
theorem dX7_turns_4 : decode cX7_turns 4 = .ok (.iconst 0, 1) := by decide +kernel
theorem dX7_turns_5 : decode cX7_turns 5 = .ok (.lload_n 2, 1) := by decide +kernel
theorem dX7_turns_6 : decode cX7_turns 6 = .ok (.lastore, 1) := by decide +kernel
theorem dX7_turns_7 : decode cX7_turns 7 = .ok (.aload_n 0, 1) := by decide +kernel
theorem dX7_turns_8 : decode cX7_turns 8 = .ok (.iconst 1, 1) := by decide +kernel
theorem dX7_turns_9 : decode cX7_turns 9 = .ok (.putfield 83, 3) := by decide +kernel
theorem dX7_turns_12 : decode cX7_turns 12 = .ok (.lload_n 2, 1) := by decide +kernel
theorem dX7_turns_13 : decode cX7_turns 13 = .ok (.lstore 4, 2) := by decide +kernel
theorem dX7_turns_15 : decode cX7_turns 15 = .ok (.iconst 0, 1) := by decide +kernel
theorem dX7_turns_16 : decode cX7_turns 16 = .ok (.istore 6, 2) := by decide +kernel
theorem dX7_turns_18 : decode cX7_turns 18 = .ok (.iload 6, 2) := by decide +kernel
theorem dX7_turns_20 : decode cX7_turns 20 = .ok (.aload_n 0, 1) := by decide +kernel
theorem dX7_turns_21 : decode cX7_turns 21 = .ok (.getfield 83, 3) := by decide +kernel
theorem dX7_turns_24 : decode cX7_turns 24 = .ok (.if_icmp .ge 128, 3) := by decide +kernel
theorem dX7_turns_27 : decode cX7_turns 27 = .ok (.iconst 0, 1) := by decide +kernel
theorem dX7_turns_28 : decode cX7_turns 28 = .ok (.istore 7, 2) := by decide +kernel
theorem dX7_turns_30 : decode cX7_turns 30 = .ok (.iload 7, 2) := by decide +kernel
theorem dX7_turns_32 : decode cX7_turns 32 = .ok (.iconst 3, 1) := by decide +kernel
theorem dX7_turns_33 : decode cX7_turns 33 = .ok (.if_icmp .ge 113, 3) := by decide +kernel
theorem dX7_turns_36 : decode cX7_turns 36 = .ok (.iload_n 1, 1) := by decide +kernel
theorem dX7_turns_37 : decode cX7_turns 37 = .ok (.aload_n 0, 1) := by decide +kernel
theorem dX7_turns_38 : decode cX7_turns 38 = .ok (.getfield 26, 3) := by decide +kernel
theorem dX7_turns_41 : decode cX7_turns 41 = .ok (.iload 6, 2) := by decide +kernel
theorem dX7_turns_43 : decode cX7_turns 43 = .ok (.laload, 1) := by decide +kernel
theorem dX7_turns_44 : decode cX7_turns 44 = .ok (.iload 7, 2) := by decide +kernel
theorem dX7_turns_46 : decode cX7_turns 46 = .ok (.invokestatic 86, 3) := by decide +kernel
theorem dX7_turns_49 : decode cX7_turns 49 = .ok (.lstore 8, 2) := by decide +kernel
theorem dX7_turns_51 : decode cX7_turns 51 = .ok (.iconst 0, 1) := by decide +kernel
theorem dX7_turns_52 : decode cX7_turns 52 = .ok (.istore 10, 2) := by decide +kernel
theorem dX7_turns_54 : decode cX7_turns 54 = .ok (.iconst 0, 1) := by decide +kernel
theorem dX7_turns_55 : decode cX7_turns 55 = .ok (.istore 11, 2) := by decide +kernel
theorem dX7_turns_57 : decode cX7_turns 57 = .ok (.iload 11, 2) := by decide +kernel
theorem dX7_turns_59 : decode cX7_turns 59 = .ok (.aload_n 0, 1) := by decide +kernel
theorem dX7_turns_60 : decode cX7_turns 60 = .ok (.getfield 83, 3) := by decide +kernel
theorem dX7_turns_63 : decode cX7_turns 63 = .ok (.if_icmp .ge 34, 3) := by decide +kernel
theorem dX7_turns_66 : decode cX7_turns 66 = .ok (.iload 10, 2) := by decide +kernel
theorem dX7_turns_68 : decode cX7_turns 68 = .ok (.ifCond .ne 16, 3) := by decide +kernel
theorem dX7_turns_71 : decode cX7_turns 71 = .ok (.aload_n 0, 1) := by decide +kernel
theorem dX7_turns_72 : decode cX7_turns 72 = .ok (.getfield 26, 3) := by decide +kernel
theorem dX7_turns_75 : decode cX7_turns 75 = .ok (.iload 11, 2) := by decide +kernel
theorem dX7_turns_77 : decode cX7_turns 77 = .ok (.laload, 1) := by decide +kernel
theorem dX7_turns_78 : decode cX7_turns 78 = .ok (.lload 8, 2) := by decide +kernel
theorem dX7_turns_80 : decode cX7_turns 80 = .ok (.lcmp, 1) := by decide +kernel
theorem dX7_turns_81 : decode cX7_turns 81 = .ok (.ifCond .ne 7, 3) := by decide +kernel
theorem dX7_turns_84 : decode cX7_turns 84 = .ok (.iconst 1, 1) := by decide +kernel
theorem dX7_turns_85 : decode cX7_turns 85 = .ok (.goto 4, 3) := by decide +kernel
theorem dX7_turns_88 : decode cX7_turns 88 = .ok (.iconst 0, 1) := by decide +kernel
theorem dX7_turns_89 : decode cX7_turns 89 = .ok (.istore 10, 2) := by decide +kernel
theorem dX7_turns_91 : decode cX7_turns 91 = .ok (.iinc 11 1, 3) := by decide +kernel
theorem dX7_turns_94 : decode cX7_turns 94 = .ok (.goto (-37), 3) := by decide +kernel
theorem dX7_turns_97 : decode cX7_turns 97 = .ok (.iload 10, 2) := by decide +kernel
theorem dX7_turns_99 : decode cX7_turns 99 = .ok (.ifCond .ne 41, 3) := by decide +kernel
theorem dX7_turns_102 : decode cX7_turns 102 = .ok (.aload_n 0, 1) := by decide +kernel
theorem dX7_turns_103 : decode cX7_turns 103 = .ok (.getfield 26, 3) := by decide +kernel
theorem dX7_turns_106 : decode cX7_turns 106 = .ok (.aload_n 0, 1) := by decide +kernel
theorem dX7_turns_107 : decode cX7_turns 107 = .ok (.getfield 83, 3) := by decide +kernel
theorem dX7_turns_110 : decode cX7_turns 110 = .ok (.lload 8, 2) := by decide +kernel
theorem dX7_turns_112 : decode cX7_turns 112 = .ok (.lastore, 1) := by decide +kernel
theorem dX7_turns_113 : decode cX7_turns 113 = .ok (.aload_n 0, 1) := by decide +kernel
theorem dX7_turns_114 : decode cX7_turns 114 = .ok (.dup, 1) := by decide +kernel
theorem dX7_turns_115 : decode cX7_turns 115 = .ok (.getfield 83, 3) := by decide +kernel
theorem dX7_turns_118 : decode cX7_turns 118 = .ok (.iconst 1, 1) := by decide +kernel
theorem dX7_turns_119 : decode cX7_turns 119 = .ok (.iadd, 1) := by decide +kernel
theorem dX7_turns_120 : decode cX7_turns 120 = .ok (.putfield 83, 3) := by decide +kernel
theorem dX7_turns_123 : decode cX7_turns 123 = .ok (.lload 8, 2) := by decide +kernel
theorem dX7_turns_125 : decode cX7_turns 125 = .ok (.lload 4, 2) := by decide +kernel
theorem dX7_turns_127 : decode cX7_turns 127 = .ok (.lcmp, 1) := by decide +kernel
theorem dX7_turns_128 : decode cX7_turns 128 = .ok (.ifCond .ge 8, 3) := by decide +kernel
theorem dX7_turns_131 : decode cX7_turns 131 = .ok (.lload 8, 2) := by decide +kernel
theorem dX7_turns_133 : decode cX7_turns 133 = .ok (.goto 5, 3) := by decide +kernel
theorem dX7_turns_136 : decode cX7_turns 136 = .ok (.lload 4, 2) := by decide +kernel
theorem dX7_turns_138 : decode cX7_turns 138 = .ok (.lstore 4, 2) := by decide +kernel
theorem dX7_turns_140 : decode cX7_turns 140 = .ok (.iinc 7 1, 3) := by decide +kernel
theorem dX7_turns_143 : decode cX7_turns 143 = .ok (.goto (-113), 3) := by decide +kernel
theorem dX7_turns_146 : decode cX7_turns 146 = .ok (.iinc 6 1, 3) := by decide +kernel
theorem dX7_turns_149 : decode cX7_turns 149 = .ok (.goto (-131), 3) := by decide +kernel
theorem dX7_turns_152 : decode cX7_turns 152 = .ok (.lload 4, 2) := by decide +kernel
theorem dX7_turns_154 : decode cX7_turns 154 = .ok (.lreturn, 1) := by decide +kernel
set_option maxRecDepth 20000 in
theorem ggX7_about_X7_is : GoodIn wsX7_about wsX7_is := goodIn_r _ [8, 9, 10, 11, 7, 12, 33, 34, 35, 36, 37, 38, 39, 40, 41, 42, 43, 44, 45, 46, 47, 48] (by decide +kernel) (by decide +kernel)
set_option maxRecDepth 20000 in
theorem gX7_about_X7_is : GoodIn wsX7_about (wsV RX7 66 RX7 yX7_is wsX7_is) := goodIn_app (goodIn_of _ (by decide +kernel)) ggX7_about_X7_is
set_option maxRecDepth 20000 in
theorem ggX7_about_X7_peakOf : GoodIn wsX7_about wsX7_peakOf := goodIn_r _ [15, 16, 17, 7, 18, 19, 20, 21] (by decide +kernel) (by decide +kernel)
set_option maxRecDepth 20000 in
theorem gX7_about_X7_peakOf : GoodIn wsX7_about (va_wsS RX7 90 yX7_peakOf wsX7_peakOf) := goodIn_app (goodIn_of _ (by decide +kernel)) ggX7_about_X7_peakOf
set_option maxRecDepth 20000 in
theorem ggX7_about_X7_energyOf : GoodIn wsX7_about wsX7_energyOf := goodIn_r _ [24, 16, 17, 7, 18, 19, 20, 21] (by decide +kernel) (by decide +kernel)
set_option maxRecDepth 20000 in
theorem gX7_about_X7_energyOf : GoodIn wsX7_about (va_wsS RX7 93 yX7_energyOf wsX7_energyOf) := goodIn_app (goodIn_of _ (by decide +kernel)) ggX7_about_X7_energyOf
set_option maxRecDepth 20000 in
theorem ggX7_about_X7_at : GoodIn wsX7_about wsX7_at := goodIn_r _ [21] (by decide +kernel) (by decide +kernel)
set_option maxRecDepth 20000 in
theorem gX7_about_X7_at : GoodIn wsX7_about (va_wsS RX7 70 yX7_at wsX7_at) := goodIn_app (goodIn_of _ (by decide +kernel)) ggX7_about_X7_at
set_option maxRecDepth 20000 in
theorem ggX7_about_X7_turns : GoodIn wsX7_about wsX7_turns := goodIn_r _ [28, 29, 3, 30, 31, 7, 32, 19, 20, 21, 33, 34, 35, 36, 37, 38, 39, 40, 41, 42, 43, 44, 45, 46, 47, 48] (by decide +kernel) (by decide +kernel)
set_option maxRecDepth 20000 in
theorem gX7_about_X7_turns : GoodIn wsX7_about (wsV RX7 96 RX7 yX7_turns wsX7_turns) := goodIn_app (goodIn_of _ (by decide +kernel)) ggX7_about_X7_turns
theorem dX7_about_0 : decode cX7_about 0 = .ok (.aload_n 0, 1) := by decide +kernel
theorem dX7_about_1 : decode cX7_about 1 = .ok (.iload_n 1, 1) := by decide +kernel
theorem dX7_about_2 : decode cX7_about 2 = .ok (.invokevirtual 66, 3) := by decide +kernel
theorem dX7_about_5 : decode cX7_about 5 = .ok (.ifCond .ne 5, 3) := by decide +kernel
theorem dX7_about_8 : decode cX7_about 8 = .ok (.iconst (-1), 1) := by decide +kernel
theorem dX7_about_9 : decode cX7_about 9 = .ok (.ireturn, 1) := by decide +kernel
theorem dX7_about_10 : decode cX7_about 10 = .ok (.aload_n 0, 1) := by decide +kernel
theorem dX7_about_11 : decode cX7_about 11 = .ok (.getfield 7, 3) := by decide +kernel
theorem dX7_about_14 : decode cX7_about 14 = .ok (.iload_n 1, 1) := by decide +kernel
theorem dX7_about_15 : decode cX7_about 15 = .ok (.iaload, 1) := by decide +kernel
theorem dX7_about_16 : decode cX7_about 16 = .ok (.istore_n 3, 1) := by decide +kernel
theorem dX7_about_17 : decode cX7_about 17 = .ok (.aload_n 0, 1) := by decide +kernel
theorem dX7_about_18 : decode cX7_about 18 = .ok (.getfield 13, 3) := by decide +kernel
theorem dX7_about_21 : decode cX7_about 21 = .ok (.iload_n 1, 1) := by decide +kernel
theorem dX7_about_22 : decode cX7_about 22 = .ok (.laload, 1) := by decide +kernel
theorem dX7_about_23 : decode cX7_about 23 = .ok (.lstore 4, 2) := by decide +kernel
theorem dX7_about_25 : decode cX7_about 25 = .ok (.iconst 0, 1) := by decide +kernel
theorem dX7_about_26 : decode cX7_about 26 = .ok (.istore 6, 2) := by decide +kernel
theorem dX7_about_28 : decode cX7_about 28 = .ok (.iload_n 2, 1) := by decide +kernel
theorem dX7_about_29 : decode cX7_about 29 = .ok (.tableswitch 140 0 4 #[35, 42, 49, 79, 126], 35) := by decide +kernel
theorem dX7_about_64 : decode cX7_about 64 = .ok (.iload_n 3, 1) := by decide +kernel
theorem dX7_about_65 : decode cX7_about 65 = .ok (.lload 4, 2) := by decide +kernel
theorem dX7_about_67 : decode cX7_about 67 = .ok (.invokestatic 90, 3) := by decide +kernel
theorem dX7_about_70 : decode cX7_about 70 = .ok (.ireturn, 1) := by decide +kernel
theorem dX7_about_71 : decode cX7_about 71 = .ok (.iload_n 3, 1) := by decide +kernel
theorem dX7_about_72 : decode cX7_about 72 = .ok (.lload 4, 2) := by decide +kernel
theorem dX7_about_74 : decode cX7_about 74 = .ok (.invokestatic 93, 3) := by decide +kernel
theorem dX7_about_77 : decode cX7_about 77 = .ok (.ireturn, 1) := by decide +kernel
theorem dX7_about_78 : decode cX7_about 78 = .ok (.iconst 0, 1) := by decide +kernel
theorem dX7_about_79 : decode cX7_about 79 = .ok (.istore 7, 2) := by decide +kernel
theorem dX7_about_81 : decode cX7_about 81 = .ok (.iload 7, 2) := by decide +kernel
theorem dX7_about_83 : decode cX7_about 83 = .ok (.iload_n 3, 1) := by decide +kernel
theorem dX7_about_84 : decode cX7_about 84 = .ok (.if_icmp .ge 21, 3) := by decide +kernel
theorem dX7_about_87 : decode cX7_about 87 = .ok (.iload 6, 2) := by decide +kernel
theorem dX7_about_89 : decode cX7_about 89 = .ok (.lload 4, 2) := by decide +kernel
theorem dX7_about_91 : decode cX7_about 91 = .ok (.iload 7, 2) := by decide +kernel
theorem dX7_about_93 : decode cX7_about 93 = .ok (.invokestatic 70, 3) := by decide +kernel
theorem dX7_about_96 : decode cX7_about 96 = .ok (.iadd, 1) := by decide +kernel
theorem dX7_about_97 : decode cX7_about 97 = .ok (.istore 6, 2) := by decide +kernel
theorem dX7_about_99 : decode cX7_about 99 = .ok (.iinc 7 1, 3) := by decide +kernel
theorem dX7_about_102 : decode cX7_about 102 = .ok (.goto (-21), 3) := by decide +kernel
theorem dX7_about_105 : decode cX7_about 105 = .ok (.iload 6, 2) := by decide +kernel
theorem dX7_about_107 : decode cX7_about 107 = .ok (.ireturn, 1) := by decide +kernel
theorem dX7_about_108 : decode cX7_about 108 = .ok (.iconst 1, 1) := by decide +kernel
theorem dX7_about_109 : decode cX7_about 109 = .ok (.istore 7, 2) := by decide +kernel
theorem dX7_about_111 : decode cX7_about 111 = .ok (.iload 7, 2) := by decide +kernel
theorem dX7_about_113 : decode cX7_about 113 = .ok (.iload_n 3, 1) := by decide +kernel
theorem dX7_about_114 : decode cX7_about 114 = .ok (.if_icmp .ge 38, 3) := by decide +kernel
theorem dX7_about_117 : decode cX7_about 117 = .ok (.iload 6, 2) := by decide +kernel
theorem dX7_about_119 : decode cX7_about 119 = .ok (.lload 4, 2) := by decide +kernel
theorem dX7_about_121 : decode cX7_about 121 = .ok (.iload 7, 2) := by decide +kernel
theorem dX7_about_123 : decode cX7_about 123 = .ok (.invokestatic 70, 3) := by decide +kernel
theorem dX7_about_126 : decode cX7_about 126 = .ok (.lload 4, 2) := by decide +kernel
theorem dX7_about_128 : decode cX7_about 128 = .ok (.iload 7, 2) := by decide +kernel
theorem dX7_about_130 : decode cX7_about 130 = .ok (.iconst 1, 1) := by decide +kernel
theorem dX7_about_131 : decode cX7_about 131 = .ok (.isub, 1) := by decide +kernel
theorem dX7_about_132 : decode cX7_about 132 = .ok (.invokestatic 70, 3) := by decide +kernel
theorem dX7_about_135 : decode cX7_about 135 = .ok (.if_icmp .eq 7, 3) := by decide +kernel
theorem dX7_about_138 : decode cX7_about 138 = .ok (.iconst 1, 1) := by decide +kernel
theorem dX7_about_139 : decode cX7_about 139 = .ok (.goto 4, 3) := by decide +kernel
theorem dX7_about_142 : decode cX7_about 142 = .ok (.iconst 0, 1) := by decide +kernel
theorem dX7_about_143 : decode cX7_about 143 = .ok (.iadd, 1) := by decide +kernel
theorem dX7_about_144 : decode cX7_about 144 = .ok (.istore 6, 2) := by decide +kernel
theorem dX7_about_146 : decode cX7_about 146 = .ok (.iinc 7 1, 3) := by decide +kernel
theorem dX7_about_149 : decode cX7_about 149 = .ok (.goto (-38), 3) := by decide +kernel
theorem dX7_about_152 : decode cX7_about 152 = .ok (.iload 6, 2) := by decide +kernel
theorem dX7_about_154 : decode cX7_about 154 = .ok (.ireturn, 1) := by decide +kernel
theorem dX7_about_155 : decode cX7_about 155 = .ok (.aload_n 0, 1) := by decide +kernel
theorem dX7_about_156 : decode cX7_about 156 = .ok (.iload_n 3, 1) := by decide +kernel
theorem dX7_about_157 : decode cX7_about 157 = .ok (.lload 4, 2) := by decide +kernel
theorem dX7_about_159 : decode cX7_about 159 = .ok (.invokevirtual 96, 3) := by decide +kernel
theorem dX7_about_162 : decode cX7_about 162 = .ok (.lstore 7, 2) := by decide +kernel
theorem dX7_about_164 : decode cX7_about 164 = .ok (.aload_n 0, 1) := by decide +kernel
theorem dX7_about_165 : decode cX7_about 165 = .ok (.getfield 83, 3) := by decide +kernel
theorem dX7_about_168 : decode cX7_about 168 = .ok (.ireturn, 1) := by decide +kernel
theorem dX7_about_169 : decode cX7_about 169 = .ok (.iconst (-1), 1) := by decide +kernel
theorem dX7_about_170 : decode cX7_about 170 = .ok (.ireturn, 1) := by decide +kernel
set_option maxRecDepth 20000 in
theorem ggX7_least_X7_is : GoodIn wsX7_least wsX7_is := goodIn_r _ [8, 9, 10, 11, 7, 12, 25, 26, 27, 28, 29, 30, 31, 32, 33, 34, 35, 36, 37, 38, 39, 40] (by decide +kernel) (by decide +kernel)
set_option maxRecDepth 20000 in
theorem gX7_least_X7_is : GoodIn wsX7_least (wsV RX7 66 RX7 yX7_is wsX7_is) := goodIn_app (goodIn_of _ (by decide +kernel)) ggX7_least_X7_is
set_option maxRecDepth 20000 in
theorem ggX7_least_X7_turns : GoodIn wsX7_least wsX7_turns := goodIn_r _ [16, 17, 18, 19, 20, 7, 21, 22, 23, 24, 25, 26, 27, 28, 29, 30, 31, 32, 33, 34, 35, 36, 37, 38, 39, 40] (by decide +kernel) (by decide +kernel)
set_option maxRecDepth 20000 in
theorem gX7_least_X7_turns : GoodIn wsX7_least (wsV RX7 96 RX7 yX7_turns wsX7_turns) := goodIn_app (goodIn_of _ (by decide +kernel)) ggX7_least_X7_turns
theorem dX7_least_0 : decode cX7_least 0 = .ok (.aload_n 0, 1) := by decide +kernel
theorem dX7_least_1 : decode cX7_least 1 = .ok (.iload_n 1, 1) := by decide +kernel
theorem dX7_least_2 : decode cX7_least 2 = .ok (.invokevirtual 66, 3) := by decide +kernel
theorem dX7_least_5 : decode cX7_least 5 = .ok (.ifCond .eq 22, 3) := by decide +kernel
theorem dX7_least_8 : decode cX7_least 8 = .ok (.aload_n 0, 1) := by decide +kernel
theorem dX7_least_9 : decode cX7_least 9 = .ok (.aload_n 0, 1) := by decide +kernel
theorem dX7_least_10 : decode cX7_least 10 = .ok (.getfield 7, 3) := by decide +kernel
theorem dX7_least_13 : decode cX7_least 13 = .ok (.iload_n 1, 1) := by decide +kernel
theorem dX7_least_14 : decode cX7_least 14 = .ok (.iaload, 1) := by decide +kernel
theorem dX7_least_15 : decode cX7_least 15 = .ok (.aload_n 0, 1) := by decide +kernel
theorem dX7_least_16 : decode cX7_least 16 = .ok (.getfield 13, 3) := by decide +kernel
theorem dX7_least_19 : decode cX7_least 19 = .ok (.iload_n 1, 1) := by decide +kernel
theorem dX7_least_20 : decode cX7_least 20 = .ok (.laload, 1) := by decide +kernel
theorem dX7_least_21 : decode cX7_least 21 = .ok (.invokevirtual 96, 3) := by decide +kernel
theorem dX7_least_24 : decode cX7_least 24 = .ok (.goto 6, 3) := by decide +kernel
theorem dX7_least_27 : decode cX7_least 27 = .ok (.ldc2_w 74, 3) := by decide +kernel
theorem dX7_least_30 : decode cX7_least 30 = .ok (.lreturn, 1) := by decide +kernel
set_option maxRecDepth 20000 in
theorem ggX7_turn_X7_is : GoodIn wsX7_turn wsX7_is := goodIn_r _ [9, 2, 10, 11, 8, 12, 23, 24, 25, 26, 27, 28, 29, 30, 31, 32, 33, 34, 35, 36, 37, 38] (by decide +kernel) (by decide +kernel)
set_option maxRecDepth 20000 in
theorem gX7_turn_X7_is : GoodIn wsX7_turn (wsV RX7 66 RX7 yX7_is wsX7_is) := goodIn_app (goodIn_of _ (by decide +kernel)) ggX7_turn_X7_is
set_option maxRecDepth 20000 in
theorem ggX7_turn_X7_in : GoodIn wsX7_turn wsX7_in := goodIn_r _ [12] (by decide +kernel) (by decide +kernel)
set_option maxRecDepth 20000 in
theorem gX7_turn_X7_in : GoodIn wsX7_turn (va_wsS RX7 52 yX7_in wsX7_in) := goodIn_app (goodIn_of _ (by decide +kernel)) ggX7_turn_X7_in
set_option maxRecDepth 20000 in
theorem ggX7_turn_X7_turned : GoodIn wsX7_turn wsX7_turned := goodIn_r _ [15, 16, 17, 8, 18] (by decide +kernel) (by decide +kernel)
set_option maxRecDepth 20000 in
theorem gX7_turn_X7_turned : GoodIn wsX7_turn (va_wsS RX7 86 yX7_turned wsX7_turned) := goodIn_app (goodIn_of _ (by decide +kernel)) ggX7_turn_X7_turned
set_option maxRecDepth 20000 in
theorem ggX7_turn_X7_added : GoodIn wsX7_turn wsX7_added := goodIn_r _ [22, 3, 2, 4, 23, 24, 25, 26, 27, 28, 29, 30, 31, 32, 33, 34, 35, 36, 37, 38] (by decide +kernel) (by decide +kernel)
set_option maxRecDepth 20000 in
theorem gX7_turn_X7_added : GoodIn wsX7_turn (wsV RX7 58 RX7 yX7_added wsX7_added) := goodIn_app (goodIn_of _ (by decide +kernel)) ggX7_turn_X7_added
theorem dX7_turn_0 : decode cX7_turn 0 = .ok (.aload_n 0, 1) := by decide +kernel
theorem dX7_turn_1 : decode cX7_turn 1 = .ok (.iload_n 1, 1) := by decide +kernel
theorem dX7_turn_2 : decode cX7_turn 2 = .ok (.invokevirtual 66, 3) := by decide +kernel
theorem dX7_turn_5 : decode cX7_turn 5 = .ok (.ifCond .eq 15, 3) := by decide +kernel
theorem dX7_turn_8 : decode cX7_turn 8 = .ok (.iload_n 2, 1) := by decide +kernel
theorem dX7_turn_9 : decode cX7_turn 9 = .ok (.i2l, 1) := by decide +kernel
theorem dX7_turn_10 : decode cX7_turn 10 = .ok (.lconst 0, 1) := by decide +kernel
theorem dX7_turn_11 : decode cX7_turn 11 = .ok (.ldc2_w 64, 3) := by decide +kernel
theorem dX7_turn_14 : decode cX7_turn 14 = .ok (.invokestatic 52, 3) := by decide +kernel
theorem dX7_turn_17 : decode cX7_turn 17 = .ok (.ifCond .ne 5, 3) := by decide +kernel
theorem dX7_turn_20 : decode cX7_turn 20 = .ok (.iconst (-1), 1) := by decide +kernel
theorem dX7_turn_21 : decode cX7_turn 21 = .ok (.ireturn, 1) := by decide +kernel
theorem dX7_turn_22 : decode cX7_turn 22 = .ok (.aload_n 0, 1) := by decide +kernel
theorem dX7_turn_23 : decode cX7_turn 23 = .ok (.getfield 49, 3) := by decide +kernel
theorem dX7_turn_26 : decode cX7_turn 26 = .ok (.bipush 24, 2) := by decide +kernel
theorem dX7_turn_28 : decode cX7_turn 28 = .ok (.if_icmp .ne 8, 3) := by decide +kernel
theorem dX7_turn_31 : decode cX7_turn 31 = .ok (.bipush (-3), 2) := by decide +kernel
theorem dX7_turn_33 : decode cX7_turn 33 = .ok (.goto 29, 3) := by decide +kernel
theorem dX7_turn_36 : decode cX7_turn 36 = .ok (.aload_n 0, 1) := by decide +kernel
theorem dX7_turn_37 : decode cX7_turn 37 = .ok (.aload_n 0, 1) := by decide +kernel
theorem dX7_turn_38 : decode cX7_turn 38 = .ok (.getfield 7, 3) := by decide +kernel
theorem dX7_turn_41 : decode cX7_turn 41 = .ok (.iload_n 1, 1) := by decide +kernel
theorem dX7_turn_42 : decode cX7_turn 42 = .ok (.iaload, 1) := by decide +kernel
theorem dX7_turn_43 : decode cX7_turn 43 = .ok (.aload_n 0, 1) := by decide +kernel
theorem dX7_turn_44 : decode cX7_turn 44 = .ok (.getfield 7, 3) := by decide +kernel
theorem dX7_turn_47 : decode cX7_turn 47 = .ok (.iload_n 1, 1) := by decide +kernel
theorem dX7_turn_48 : decode cX7_turn 48 = .ok (.iaload, 1) := by decide +kernel
theorem dX7_turn_49 : decode cX7_turn 49 = .ok (.aload_n 0, 1) := by decide +kernel
theorem dX7_turn_50 : decode cX7_turn 50 = .ok (.getfield 13, 3) := by decide +kernel
theorem dX7_turn_53 : decode cX7_turn 53 = .ok (.iload_n 1, 1) := by decide +kernel
theorem dX7_turn_54 : decode cX7_turn 54 = .ok (.laload, 1) := by decide +kernel
theorem dX7_turn_55 : decode cX7_turn 55 = .ok (.iload_n 2, 1) := by decide +kernel
theorem dX7_turn_56 : decode cX7_turn 56 = .ok (.invokestatic 86, 3) := by decide +kernel
theorem dX7_turn_59 : decode cX7_turn 59 = .ok (.invokevirtual 58, 3) := by decide +kernel
theorem dX7_turn_62 : decode cX7_turn 62 = .ok (.ireturn, 1) := by decide +kernel
set_option maxRecDepth 20000 in
theorem ggX7_areLike_X7_is : GoodIn wsX7_areLike wsX7_is := goodIn_r _ [6, 7, 8, 9, 5, 10, 11, 12, 13, 14, 15, 16, 17, 18, 19, 20, 21, 22, 23, 24, 25, 26] (by decide +kernel) (by decide +kernel)
set_option maxRecDepth 20000 in
theorem gX7_areLike_X7_is : GoodIn wsX7_areLike (wsV RX7 66 RX7 yX7_is wsX7_is) := goodIn_app (goodIn_of _ (by decide +kernel)) ggX7_areLike_X7_is
theorem dX7_areLike_0 : decode cX7_areLike 0 = .ok (.aload_n 0, 1) := by decide +kernel
theorem dX7_areLike_1 : decode cX7_areLike 1 = .ok (.iload_n 1, 1) := by decide +kernel
theorem dX7_areLike_2 : decode cX7_areLike 2 = .ok (.invokevirtual 66, 3) := by decide +kernel
theorem dX7_areLike_5 : decode cX7_areLike 5 = .ok (.ifCond .eq 30, 3) := by decide +kernel
theorem dX7_areLike_8 : decode cX7_areLike 8 = .ok (.aload_n 0, 1) := by decide +kernel
theorem dX7_areLike_9 : decode cX7_areLike 9 = .ok (.iload_n 2, 1) := by decide +kernel
theorem dX7_areLike_10 : decode cX7_areLike 10 = .ok (.invokevirtual 66, 3) := by decide +kernel
theorem dX7_areLike_13 : decode cX7_areLike 13 = .ok (.ifCond .eq 22, 3) := by decide +kernel
theorem dX7_areLike_16 : decode cX7_areLike 16 = .ok (.aload_n 0, 1) := by decide +kernel
theorem dX7_areLike_17 : decode cX7_areLike 17 = .ok (.getfield 7, 3) := by decide +kernel
theorem dX7_areLike_20 : decode cX7_areLike 20 = .ok (.iload_n 1, 1) := by decide +kernel
theorem dX7_areLike_21 : decode cX7_areLike 21 = .ok (.iaload, 1) := by decide +kernel
theorem dX7_areLike_22 : decode cX7_areLike 22 = .ok (.aload_n 0, 1) := by decide +kernel
theorem dX7_areLike_23 : decode cX7_areLike 23 = .ok (.getfield 7, 3) := by decide +kernel
theorem dX7_areLike_26 : decode cX7_areLike 26 = .ok (.iload_n 2, 1) := by decide +kernel
theorem dX7_areLike_27 : decode cX7_areLike 27 = .ok (.iaload, 1) := by decide +kernel
theorem dX7_areLike_28 : decode cX7_areLike 28 = .ok (.if_icmp .ne 7, 3) := by decide +kernel
theorem dX7_areLike_31 : decode cX7_areLike 31 = .ok (.iconst 1, 1) := by decide +kernel
theorem dX7_areLike_32 : decode cX7_areLike 32 = .ok (.goto 4, 3) := by decide +kernel
theorem dX7_areLike_35 : decode cX7_areLike 35 = .ok (.iconst 0, 1) := by decide +kernel
theorem dX7_areLike_36 : decode cX7_areLike 36 = .ok (.ireturn, 1) := by decide +kernel
theorem dX7_behind_0 : decode cX7_behind 0 = .ok (.lload_n 1, 1) := by decide +kernel
theorem dX7_behind_1 : decode cX7_behind 1 = .ok (.lload_n 3, 1) := by decide +kernel
theorem dX7_behind_2 : decode cX7_behind 2 = .ok (.iload_n 0, 1) := by decide +kernel
theorem dX7_behind_3 : decode cX7_behind 3 = .ok (.lshl, 1) := by decide +kernel
theorem dX7_behind_4 : decode cX7_behind 4 = .ok (.lor, 1) := by decide +kernel
theorem dX7_behind_5 : decode cX7_behind 5 = .ok (.lreturn, 1) := by decide +kernel
set_option maxRecDepth 20000 in
theorem ggX7_put_X7_is : GoodIn wsX7_put wsX7_is := goodIn_r _ [8, 2, 9, 10, 7, 11, 19, 20, 21, 22, 23, 24, 25, 26, 27, 28, 29, 30, 31, 32, 33, 34] (by decide +kernel) (by decide +kernel)
set_option maxRecDepth 20000 in
theorem gX7_put_X7_is : GoodIn wsX7_put (wsV RX7 66 RX7 yX7_is wsX7_is) := goodIn_app (goodIn_of _ (by decide +kernel)) ggX7_put_X7_is
set_option maxRecDepth 20000 in
theorem ggX7_put_X7_behind : GoodIn wsX7_put wsX7_behind := goodIn_r _ [14] (by decide +kernel) (by decide +kernel)
set_option maxRecDepth 20000 in
theorem gX7_put_X7_behind : GoodIn wsX7_put (va_wsS RX7 100 yX7_behind wsX7_behind) := goodIn_app (goodIn_of _ (by decide +kernel)) ggX7_put_X7_behind
set_option maxRecDepth 20000 in
theorem ggX7_put_X7_added : GoodIn wsX7_put wsX7_added := goodIn_r _ [18, 1, 2, 3, 19, 20, 21, 22, 23, 24, 25, 26, 27, 28, 29, 30, 31, 32, 33, 34] (by decide +kernel) (by decide +kernel)
set_option maxRecDepth 20000 in
theorem gX7_put_X7_added : GoodIn wsX7_put (wsV RX7 58 RX7 yX7_added wsX7_added) := goodIn_app (goodIn_of _ (by decide +kernel)) ggX7_put_X7_added
theorem dX7_put_0 : decode cX7_put 0 = .ok (.aload_n 0, 1) := by decide +kernel
theorem dX7_put_1 : decode cX7_put 1 = .ok (.iload_n 1, 1) := by decide +kernel
theorem dX7_put_2 : decode cX7_put 2 = .ok (.invokevirtual 66, 3) := by decide +kernel
theorem dX7_put_5 : decode cX7_put 5 = .ok (.ifCond .eq 11, 3) := by decide +kernel
theorem dX7_put_8 : decode cX7_put 8 = .ok (.aload_n 0, 1) := by decide +kernel
theorem dX7_put_9 : decode cX7_put 9 = .ok (.iload_n 2, 1) := by decide +kernel
theorem dX7_put_10 : decode cX7_put 10 = .ok (.invokevirtual 66, 3) := by decide +kernel
theorem dX7_put_13 : decode cX7_put 13 = .ok (.ifCond .ne 5, 3) := by decide +kernel
theorem dX7_put_16 : decode cX7_put 16 = .ok (.iconst (-1), 1) := by decide +kernel
theorem dX7_put_17 : decode cX7_put 17 = .ok (.ireturn, 1) := by decide +kernel
theorem dX7_put_18 : decode cX7_put 18 = .ok (.aload_n 0, 1) := by decide +kernel
theorem dX7_put_19 : decode cX7_put 19 = .ok (.getfield 7, 3) := by decide +kernel
theorem dX7_put_22 : decode cX7_put 22 = .ok (.iload_n 1, 1) := by decide +kernel
theorem dX7_put_23 : decode cX7_put 23 = .ok (.iaload, 1) := by decide +kernel
theorem dX7_put_24 : decode cX7_put 24 = .ok (.aload_n 0, 1) := by decide +kernel
theorem dX7_put_25 : decode cX7_put 25 = .ok (.getfield 7, 3) := by decide +kernel
theorem dX7_put_28 : decode cX7_put 28 = .ok (.iload_n 2, 1) := by decide +kernel
theorem dX7_put_29 : decode cX7_put 29 = .ok (.iaload, 1) := by decide +kernel
theorem dX7_put_30 : decode cX7_put 30 = .ok (.iadd, 1) := by decide +kernel
theorem dX7_put_31 : decode cX7_put 31 = .ok (.istore_n 3, 1) := by decide +kernel
theorem dX7_put_32 : decode cX7_put 32 = .ok (.aload_n 0, 1) := by decide +kernel
theorem dX7_put_33 : decode cX7_put 33 = .ok (.getfield 49, 3) := by decide +kernel
theorem dX7_put_36 : decode cX7_put 36 = .ok (.bipush 24, 2) := by decide +kernel
theorem dX7_put_38 : decode cX7_put 38 = .ok (.if_icmp .eq 9, 3) := by decide +kernel
theorem dX7_put_41 : decode cX7_put 41 = .ok (.iload_n 3, 1) := by decide +kernel
theorem dX7_put_42 : decode cX7_put 42 = .ok (.bipush 32, 2) := by decide +kernel
theorem dX7_put_44 : decode cX7_put 44 = .ok (.if_icmp .le 8, 3) := by decide +kernel
theorem dX7_put_47 : decode cX7_put 47 = .ok (.bipush (-3), 2) := by decide +kernel
theorem dX7_put_49 : decode cX7_put 49 = .ok (.goto 29, 3) := by decide +kernel
theorem dX7_put_52 : decode cX7_put 52 = .ok (.aload_n 0, 1) := by decide +kernel
theorem dX7_put_53 : decode cX7_put 53 = .ok (.iload_n 3, 1) := by decide +kernel
theorem dX7_put_54 : decode cX7_put 54 = .ok (.aload_n 0, 1) := by decide +kernel
theorem dX7_put_55 : decode cX7_put 55 = .ok (.getfield 7, 3) := by decide +kernel
theorem dX7_put_58 : decode cX7_put 58 = .ok (.iload_n 1, 1) := by decide +kernel
theorem dX7_put_59 : decode cX7_put 59 = .ok (.iaload, 1) := by decide +kernel
theorem dX7_put_60 : decode cX7_put 60 = .ok (.aload_n 0, 1) := by decide +kernel
theorem dX7_put_61 : decode cX7_put 61 = .ok (.getfield 13, 3) := by decide +kernel
theorem dX7_put_64 : decode cX7_put 64 = .ok (.iload_n 1, 1) := by decide +kernel
theorem dX7_put_65 : decode cX7_put 65 = .ok (.laload, 1) := by decide +kernel
theorem dX7_put_66 : decode cX7_put 66 = .ok (.aload_n 0, 1) := by decide +kernel
theorem dX7_put_67 : decode cX7_put 67 = .ok (.getfield 13, 3) := by decide +kernel
theorem dX7_put_70 : decode cX7_put 70 = .ok (.iload_n 2, 1) := by decide +kernel
theorem dX7_put_71 : decode cX7_put 71 = .ok (.laload, 1) := by decide +kernel
theorem dX7_put_72 : decode cX7_put 72 = .ok (.invokestatic 100, 3) := by decide +kernel
theorem dX7_put_75 : decode cX7_put 75 = .ok (.invokevirtual 58, 3) := by decide +kernel
theorem dX7_put_78 : decode cX7_put 78 = .ok (.ireturn, 1) := by decide +kernel
set_option maxRecDepth 20000 in
theorem ggX7_weave_X7_areLike : GoodIn wsX7_weave wsX7_areLike := goodIn_r _ [8, 1, 9, 10, 11, 7, 12, 2, 13, 14, 15, 20, 21, 22, 23, 24, 25, 26, 27, 28, 29, 30, 31, 32, 33, 34, 35] (by decide +kernel) (by decide +kernel)
set_option maxRecDepth 20000 in
theorem gX7_weave_X7_areLike : GoodIn wsX7_weave (wsV RX7 104 RX7 yX7_areLike wsX7_areLike) := goodIn_app (goodIn_of _ (by decide +kernel)) ggX7_weave_X7_areLike
set_option maxRecDepth 20000 in
theorem ggX7_weave_X7_added : GoodIn wsX7_weave wsX7_added := goodIn_r _ [19, 1, 2, 3, 20, 21, 22, 23, 24, 25, 26, 27, 28, 29, 30, 31, 32, 33, 34, 35] (by decide +kernel) (by decide +kernel)
set_option maxRecDepth 20000 in
theorem gX7_weave_X7_added : GoodIn wsX7_weave (wsV RX7 58 RX7 yX7_added wsX7_added) := goodIn_app (goodIn_of _ (by decide +kernel)) ggX7_weave_X7_added
theorem dX7_weave_0 : decode cX7_weave 0 = .ok (.aload_n 0, 1) := by decide +kernel
theorem dX7_weave_1 : decode cX7_weave 1 = .ok (.iload_n 1, 1) := by decide +kernel
theorem dX7_weave_2 : decode cX7_weave 2 = .ok (.iload_n 2, 1) := by decide +kernel
theorem dX7_weave_3 : decode cX7_weave 3 = .ok (.invokevirtual 104, 3) := by decide +kernel
theorem dX7_weave_6 : decode cX7_weave 6 = .ok (.ifCond .ne 5, 3) := by decide +kernel
theorem dX7_weave_9 : decode cX7_weave 9 = .ok (.iconst (-1), 1) := by decide +kernel
theorem dX7_weave_10 : decode cX7_weave 10 = .ok (.ireturn, 1) := by decide +kernel
theorem dX7_weave_11 : decode cX7_weave 11 = .ok (.aload_n 0, 1) := by decide +kernel
theorem dX7_weave_12 : decode cX7_weave 12 = .ok (.getfield 7, 3) := by decide +kernel
theorem dX7_weave_15 : decode cX7_weave 15 = .ok (.iload_n 1, 1) := by decide +kernel
theorem dX7_weave_16 : decode cX7_weave 16 = .ok (.iaload, 1) := by decide +kernel
theorem dX7_weave_17 : decode cX7_weave 17 = .ok (.istore_n 3, 1) := by decide +kernel
theorem dX7_weave_18 : decode cX7_weave 18 = .ok (.aload_n 0, 1) := by decide +kernel
theorem dX7_weave_19 : decode cX7_weave 19 = .ok (.getfield 49, 3) := by decide +kernel
theorem dX7_weave_22 : decode cX7_weave 22 = .ok (.bipush 24, 2) := by decide +kernel
theorem dX7_weave_24 : decode cX7_weave 24 = .ok (.if_icmp .eq 11, 3) := by decide +kernel
theorem dX7_weave_27 : decode cX7_weave 27 = .ok (.iconst 2, 1) := by decide +kernel
theorem dX7_weave_28 : decode cX7_weave 28 = .ok (.iload_n 3, 1) := by decide +kernel
theorem dX7_weave_29 : decode cX7_weave 29 = .ok (.imul, 1) := by decide +kernel
theorem dX7_weave_30 : decode cX7_weave 30 = .ok (.bipush 32, 2) := by decide +kernel
theorem dX7_weave_32 : decode cX7_weave 32 = .ok (.if_icmp .le 6, 3) := by decide +kernel
theorem dX7_weave_35 : decode cX7_weave 35 = .ok (.bipush (-3), 2) := by decide +kernel
theorem dX7_weave_37 : decode cX7_weave 37 = .ok (.ireturn, 1) := by decide +kernel
theorem dX7_weave_38 : decode cX7_weave 38 = .ok (.lconst 0, 1) := by decide +kernel
theorem dX7_weave_39 : decode cX7_weave 39 = .ok (.lstore 4, 2) := by decide +kernel
theorem dX7_weave_41 : decode cX7_weave 41 = .ok (.iconst 0, 1) := by decide +kernel
theorem dX7_weave_42 : decode cX7_weave 42 = .ok (.istore 6, 2) := by decide +kernel
theorem dX7_weave_44 : decode cX7_weave 44 = .ok (.iload 6, 2) := by decide +kernel
theorem dX7_weave_46 : decode cX7_weave 46 = .ok (.iload_n 3, 1) := by decide +kernel
theorem dX7_weave_47 : decode cX7_weave 47 = .ok (.if_icmp .ge 49, 3) := by decide +kernel
theorem dX7_weave_50 : decode cX7_weave 50 = .ok (.lload 4, 2) := by decide +kernel
theorem dX7_weave_52 : decode cX7_weave 52 = .ok (.aload_n 0, 1) := by decide +kernel
theorem dX7_weave_53 : decode cX7_weave 53 = .ok (.getfield 13, 3) := by decide +kernel
theorem dX7_weave_56 : decode cX7_weave 56 = .ok (.iload_n 1, 1) := by decide +kernel
theorem dX7_weave_57 : decode cX7_weave 57 = .ok (.laload, 1) := by decide +kernel
theorem dX7_weave_58 : decode cX7_weave 58 = .ok (.iload 6, 2) := by decide +kernel
theorem dX7_weave_60 : decode cX7_weave 60 = .ok (.lshr, 1) := by decide +kernel
theorem dX7_weave_61 : decode cX7_weave 61 = .ok (.lconst 1, 1) := by decide +kernel
theorem dX7_weave_62 : decode cX7_weave 62 = .ok (.land, 1) := by decide +kernel
theorem dX7_weave_63 : decode cX7_weave 63 = .ok (.iconst 2, 1) := by decide +kernel
theorem dX7_weave_64 : decode cX7_weave 64 = .ok (.iload 6, 2) := by decide +kernel
theorem dX7_weave_66 : decode cX7_weave 66 = .ok (.imul, 1) := by decide +kernel
theorem dX7_weave_67 : decode cX7_weave 67 = .ok (.lshl, 1) := by decide +kernel
theorem dX7_weave_68 : decode cX7_weave 68 = .ok (.aload_n 0, 1) := by decide +kernel
theorem dX7_weave_69 : decode cX7_weave 69 = .ok (.getfield 13, 3) := by decide +kernel
theorem dX7_weave_72 : decode cX7_weave 72 = .ok (.iload_n 2, 1) := by decide +kernel
theorem dX7_weave_73 : decode cX7_weave 73 = .ok (.laload, 1) := by decide +kernel
theorem dX7_weave_74 : decode cX7_weave 74 = .ok (.iload 6, 2) := by decide +kernel
theorem dX7_weave_76 : decode cX7_weave 76 = .ok (.lshr, 1) := by decide +kernel
theorem dX7_weave_77 : decode cX7_weave 77 = .ok (.lconst 1, 1) := by decide +kernel
theorem dX7_weave_78 : decode cX7_weave 78 = .ok (.land, 1) := by decide +kernel
theorem dX7_weave_79 : decode cX7_weave 79 = .ok (.iconst 2, 1) := by decide +kernel
theorem dX7_weave_80 : decode cX7_weave 80 = .ok (.iload 6, 2) := by decide +kernel
theorem dX7_weave_82 : decode cX7_weave 82 = .ok (.imul, 1) := by decide +kernel
theorem dX7_weave_83 : decode cX7_weave 83 = .ok (.iconst 1, 1) := by decide +kernel
theorem dX7_weave_84 : decode cX7_weave 84 = .ok (.iadd, 1) := by decide +kernel
theorem dX7_weave_85 : decode cX7_weave 85 = .ok (.lshl, 1) := by decide +kernel
theorem dX7_weave_86 : decode cX7_weave 86 = .ok (.lor, 1) := by decide +kernel
theorem dX7_weave_87 : decode cX7_weave 87 = .ok (.lor, 1) := by decide +kernel
theorem dX7_weave_88 : decode cX7_weave 88 = .ok (.lstore 4, 2) := by decide +kernel
theorem dX7_weave_90 : decode cX7_weave 90 = .ok (.iinc 6 1, 3) := by decide +kernel
theorem dX7_weave_93 : decode cX7_weave 93 = .ok (.goto (-49), 3) := by decide +kernel
theorem dX7_weave_96 : decode cX7_weave 96 = .ok (.aload_n 0, 1) := by decide +kernel
theorem dX7_weave_97 : decode cX7_weave 97 = .ok (.iconst 2, 1) := by decide +kernel
theorem dX7_weave_98 : decode cX7_weave 98 = .ok (.iload_n 3, 1) := by decide +kernel
theorem dX7_weave_99 : decode cX7_weave 99 = .ok (.imul, 1) := by decide +kernel
theorem dX7_weave_100 : decode cX7_weave 100 = .ok (.lload 4, 2) := by decide +kernel
theorem dX7_weave_102 : decode cX7_weave 102 = .ok (.invokevirtual 58, 3) := by decide +kernel
theorem dX7_weave_105 : decode cX7_weave 105 = .ok (.ireturn, 1) := by decide +kernel
set_option maxRecDepth 20000 in
theorem ggX7_times_X7_is : GoodIn wsX7_times wsX7_is := goodIn_r _ [8, 2, 9, 10, 7, 11, 19, 20, 21, 22, 23, 24, 25, 26, 27, 28, 29, 30, 31, 32, 33, 34] (by decide +kernel) (by decide +kernel)
set_option maxRecDepth 20000 in
theorem gX7_times_X7_is : GoodIn wsX7_times (wsV RX7 66 RX7 yX7_is wsX7_is) := goodIn_app (goodIn_of _ (by decide +kernel)) ggX7_times_X7_is
set_option maxRecDepth 20000 in
theorem ggX7_times_X7_at : GoodIn wsX7_times wsX7_at := goodIn_r _ [14] (by decide +kernel) (by decide +kernel)
set_option maxRecDepth 20000 in
theorem gX7_times_X7_at : GoodIn wsX7_times (va_wsS RX7 70 yX7_at wsX7_at) := goodIn_app (goodIn_of _ (by decide +kernel)) ggX7_times_X7_at
set_option maxRecDepth 20000 in
theorem ggX7_times_X7_added : GoodIn wsX7_times wsX7_added := goodIn_r _ [18, 1, 2, 3, 19, 20, 21, 22, 23, 24, 25, 26, 27, 28, 29, 30, 31, 32, 33, 34] (by decide +kernel) (by decide +kernel)
set_option maxRecDepth 20000 in
theorem gX7_times_X7_added : GoodIn wsX7_times (wsV RX7 58 RX7 yX7_added wsX7_added) := goodIn_app (goodIn_of _ (by decide +kernel)) ggX7_times_X7_added
theorem dX7_times_0 : decode cX7_times 0 = .ok (.aload_n 0, 1) := by decide +kernel
theorem dX7_times_1 : decode cX7_times 1 = .ok (.iload_n 1, 1) := by decide +kernel
theorem dX7_times_2 : decode cX7_times 2 = .ok (.invokevirtual 66, 3) := by decide +kernel
theorem dX7_times_5 : decode cX7_times 5 = .ok (.ifCond .eq 11, 3) := by decide +kernel
theorem dX7_times_8 : decode cX7_times 8 = .ok (.aload_n 0, 1) := by decide +kernel
theorem dX7_times_9 : decode cX7_times 9 = .ok (.iload_n 2, 1) := by decide +kernel
theorem dX7_times_10 : decode cX7_times 10 = .ok (.invokevirtual 66, 3) := by decide +kernel
theorem dX7_times_13 : decode cX7_times 13 = .ok (.ifCond .ne 5, 3) := by decide +kernel
theorem dX7_times_16 : decode cX7_times 16 = .ok (.iconst (-1), 1) := by decide +kernel
theorem dX7_times_17 : decode cX7_times 17 = .ok (.ireturn, 1) := by decide +kernel
theorem dX7_times_18 : decode cX7_times 18 = .ok (.aload_n 0, 1) := by decide +kernel
theorem dX7_times_19 : decode cX7_times 19 = .ok (.getfield 7, 3) := by decide +kernel
theorem dX7_times_22 : decode cX7_times 22 = .ok (.iload_n 2, 1) := by decide +kernel
theorem dX7_times_23 : decode cX7_times 23 = .ok (.iaload, 1) := by decide +kernel
theorem dX7_times_24 : decode cX7_times 24 = .ok (.istore_n 3, 1) := by decide +kernel
theorem dX7_times_25 : decode cX7_times 25 = .ok (.aload_n 0, 1) := by decide +kernel
theorem dX7_times_26 : decode cX7_times 26 = .ok (.getfield 49, 3) := by decide +kernel
theorem dX7_times_29 : decode cX7_times 29 = .ok (.bipush 24, 2) := by decide +kernel
theorem dX7_times_31 : decode cX7_times 31 = .ok (.if_icmp .eq 16, 3) := by decide +kernel
theorem dX7_times_34 : decode cX7_times 34 = .ok (.aload_n 0, 1) := by decide +kernel
theorem dX7_times_35 : decode cX7_times 35 = .ok (.getfield 7, 3) := by decide +kernel
theorem dX7_times_38 : decode cX7_times 38 = .ok (.iload_n 1, 1) := by decide +kernel
theorem dX7_times_39 : decode cX7_times 39 = .ok (.iaload, 1) := by decide +kernel
theorem dX7_times_40 : decode cX7_times 40 = .ok (.iload_n 3, 1) := by decide +kernel
theorem dX7_times_41 : decode cX7_times 41 = .ok (.imul, 1) := by decide +kernel
theorem dX7_times_42 : decode cX7_times 42 = .ok (.bipush 32, 2) := by decide +kernel
theorem dX7_times_44 : decode cX7_times 44 = .ok (.if_icmp .le 6, 3) := by decide +kernel
theorem dX7_times_47 : decode cX7_times 47 = .ok (.bipush (-3), 2) := by decide +kernel
theorem dX7_times_49 : decode cX7_times 49 = .ok (.ireturn, 1) := by decide +kernel
theorem dX7_times_50 : decode cX7_times 50 = .ok (.lconst 0, 1) := by decide +kernel
theorem dX7_times_51 : decode cX7_times 51 = .ok (.lstore 4, 2) := by decide +kernel
theorem dX7_times_53 : decode cX7_times 53 = .ok (.iconst 0, 1) := by decide +kernel
theorem dX7_times_54 : decode cX7_times 54 = .ok (.istore 6, 2) := by decide +kernel
theorem dX7_times_56 : decode cX7_times 56 = .ok (.iload 6, 2) := by decide +kernel
theorem dX7_times_58 : decode cX7_times 58 = .ok (.aload_n 0, 1) := by decide +kernel
theorem dX7_times_59 : decode cX7_times 59 = .ok (.getfield 7, 3) := by decide +kernel
theorem dX7_times_62 : decode cX7_times 62 = .ok (.iload_n 1, 1) := by decide +kernel
theorem dX7_times_63 : decode cX7_times 63 = .ok (.iaload, 1) := by decide +kernel
theorem dX7_times_64 : decode cX7_times 64 = .ok (.iload_n 3, 1) := by decide +kernel
theorem dX7_times_65 : decode cX7_times 65 = .ok (.imul, 1) := by decide +kernel
theorem dX7_times_66 : decode cX7_times 66 = .ok (.if_icmp .ge 52, 3) := by decide +kernel
theorem dX7_times_69 : decode cX7_times 69 = .ok (.lload 4, 2) := by decide +kernel
theorem dX7_times_71 : decode cX7_times 71 = .ok (.aload_n 0, 1) := by decide +kernel
theorem dX7_times_72 : decode cX7_times 72 = .ok (.getfield 13, 3) := by decide +kernel
theorem dX7_times_75 : decode cX7_times 75 = .ok (.iload_n 1, 1) := by decide +kernel
theorem dX7_times_76 : decode cX7_times 76 = .ok (.laload, 1) := by decide +kernel
theorem dX7_times_77 : decode cX7_times 77 = .ok (.iload 6, 2) := by decide +kernel
theorem dX7_times_79 : decode cX7_times 79 = .ok (.iload_n 3, 1) := by decide +kernel
theorem dX7_times_80 : decode cX7_times 80 = .ok (.idiv, 1) := by decide +kernel
theorem dX7_times_81 : decode cX7_times 81 = .ok (.invokestatic 70, 3) := by decide +kernel
theorem dX7_times_84 : decode cX7_times 84 = .ok (.aload_n 0, 1) := by decide +kernel
theorem dX7_times_85 : decode cX7_times 85 = .ok (.getfield 13, 3) := by decide +kernel
theorem dX7_times_88 : decode cX7_times 88 = .ok (.iload_n 2, 1) := by decide +kernel
theorem dX7_times_89 : decode cX7_times 89 = .ok (.laload, 1) := by decide +kernel
theorem dX7_times_90 : decode cX7_times 90 = .ok (.iload 6, 2) := by decide +kernel
theorem dX7_times_92 : decode cX7_times 92 = .ok (.iload_n 3, 1) := by decide +kernel
theorem dX7_times_93 : decode cX7_times 93 = .ok (.irem, 1) := by decide +kernel
theorem dX7_times_94 : decode cX7_times 94 = .ok (.invokestatic 70, 3) := by decide +kernel
theorem dX7_times_97 : decode cX7_times 97 = .ok (.imul, 1) := by decide +kernel
theorem dX7_times_98 : decode cX7_times 98 = .ok (.ifCond .ge 10, 3) := by decide +kernel
theorem dX7_times_101 : decode cX7_times 101 = .ok (.lconst 1, 1) := by decide +kernel
theorem dX7_times_102 : decode cX7_times 102 = .ok (.iload 6, 2) := by decide +kernel
theorem dX7_times_104 : decode cX7_times 104 = .ok (.lshl, 1) := by decide +kernel
theorem dX7_times_105 : decode cX7_times 105 = .ok (.goto 4, 3) := by decide +kernel
theorem dX7_times_108 : decode cX7_times 108 = .ok (.lconst 0, 1) := by decide +kernel
theorem dX7_times_109 : decode cX7_times 109 = .ok (.lor, 1) := by decide +kernel
theorem dX7_times_110 : decode cX7_times 110 = .ok (.lstore 4, 2) := by decide +kernel
theorem dX7_times_112 : decode cX7_times 112 = .ok (.iinc 6 1, 3) := by decide +kernel
theorem dX7_times_115 : decode cX7_times 115 = .ok (.goto (-59), 3) := by decide +kernel
theorem dX7_times_118 : decode cX7_times 118 = .ok (.aload_n 0, 1) := by decide +kernel
theorem dX7_times_119 : decode cX7_times 119 = .ok (.aload_n 0, 1) := by decide +kernel
theorem dX7_times_120 : decode cX7_times 120 = .ok (.getfield 7, 3) := by decide +kernel
theorem dX7_times_123 : decode cX7_times 123 = .ok (.iload_n 1, 1) := by decide +kernel
theorem dX7_times_124 : decode cX7_times 124 = .ok (.iaload, 1) := by decide +kernel
theorem dX7_times_125 : decode cX7_times 125 = .ok (.iload_n 3, 1) := by decide +kernel
theorem dX7_times_126 : decode cX7_times 126 = .ok (.imul, 1) := by decide +kernel
theorem dX7_times_127 : decode cX7_times 127 = .ok (.lload 4, 2) := by decide +kernel
theorem dX7_times_129 : decode cX7_times 129 = .ok (.invokevirtual 58, 3) := by decide +kernel
theorem dX7_times_132 : decode cX7_times 132 = .ok (.ireturn, 1) := by decide +kernel
set_option maxRecDepth 20000 in
theorem ggX7_cancelOf_X7_openOf : GoodIn wsX7_cancelOf wsX7_openOf := goodIn_r _ [4, 5, 6, 3, 7] (by decide +kernel) (by decide +kernel)
set_option maxRecDepth 20000 in
theorem gX7_cancelOf_X7_openOf : GoodIn wsX7_cancelOf (va_wsS RX7 76 yX7_openOf wsX7_openOf) := goodIn_app (goodIn_of _ (by decide +kernel)) ggX7_cancelOf_X7_openOf
theorem dX7_cancelOf_0 : decode cX7_cancelOf 0 = .ok (.iconst 1, 1) := by decide +kernel
theorem dX7_cancelOf_1 : decode cX7_cancelOf 1 = .ok (.istore 5, 2) := by decide +kernel
theorem dX7_cancelOf_3 : decode cX7_cancelOf 3 = .ok (.iload 5, 2) := by decide +kernel
theorem dX7_cancelOf_5 : decode cX7_cancelOf 5 = .ok (.iload_n 0, 1) := by decide +kernel
theorem dX7_cancelOf_6 : decode cX7_cancelOf 6 = .ok (.if_icmp .ge 30, 3) := by decide +kernel
theorem dX7_cancelOf_9 : decode cX7_cancelOf 9 = .ok (.iload_n 0, 1) := by decide +kernel
theorem dX7_cancelOf_10 : decode cX7_cancelOf 10 = .ok (.lload_n 1, 1) := by decide +kernel
theorem dX7_cancelOf_11 : decode cX7_cancelOf 11 = .ok (.iload 5, 2) := by decide +kernel
theorem dX7_cancelOf_13 : decode cX7_cancelOf 13 = .ok (.invokestatic 76, 3) := by decide +kernel
theorem dX7_cancelOf_16 : decode cX7_cancelOf 16 = .ok (.iload_n 0, 1) := by decide +kernel
theorem dX7_cancelOf_17 : decode cX7_cancelOf 17 = .ok (.lload_n 3, 1) := by decide +kernel
theorem dX7_cancelOf_18 : decode cX7_cancelOf 18 = .ok (.iload 5, 2) := by decide +kernel
theorem dX7_cancelOf_20 : decode cX7_cancelOf 20 = .ok (.invokestatic 76, 3) := by decide +kernel
theorem dX7_cancelOf_23 : decode cX7_cancelOf 23 = .ok (.iadd, 1) := by decide +kernel
theorem dX7_cancelOf_24 : decode cX7_cancelOf 24 = .ok (.ifCond .eq 6, 3) := by decide +kernel
theorem dX7_cancelOf_27 : decode cX7_cancelOf 27 = .ok (.iload 5, 2) := by decide +kernel
theorem dX7_cancelOf_29 : decode cX7_cancelOf 29 = .ok (.ireturn, 1) := by decide +kernel
theorem dX7_cancelOf_30 : decode cX7_cancelOf 30 = .ok (.iinc 5 1, 3) := by decide +kernel
theorem dX7_cancelOf_33 : decode cX7_cancelOf 33 = .ok (.goto (-30), 3) := by decide +kernel
theorem dX7_cancelOf_36 : decode cX7_cancelOf 36 = .ok (.iconst 0, 1) := by decide +kernel
theorem dX7_cancelOf_37 : decode cX7_cancelOf 37 = .ok (.ireturn, 1) := by decide +kernel
set_option maxRecDepth 20000 in
theorem ggX7_cancels_X7_areLike : GoodIn wsX7_cancels wsX7_areLike := goodIn_r _ [7, 1, 8, 9, 10, 6, 11, 12, 13, 14, 15, 25, 26, 27, 28, 29, 30, 31, 32, 33, 34, 35, 36, 37, 38, 39, 40] (by decide +kernel) (by decide +kernel)
set_option maxRecDepth 20000 in
theorem gX7_cancels_X7_areLike : GoodIn wsX7_cancels (wsV RX7 104 RX7 yX7_areLike wsX7_areLike) := goodIn_app (goodIn_of _ (by decide +kernel)) ggX7_cancels_X7_areLike
set_option maxRecDepth 20000 in
theorem ggX7_cancels_X7_cancelOf : GoodIn wsX7_cancels wsX7_cancelOf := goodIn_r _ [18, 19, 20, 6, 21, 22, 23, 24] (by decide +kernel) (by decide +kernel)
set_option maxRecDepth 20000 in
theorem gX7_cancels_X7_cancelOf : GoodIn wsX7_cancels (va_wsS RX7 108 yX7_cancelOf wsX7_cancelOf) := goodIn_app (goodIn_of _ (by decide +kernel)) ggX7_cancels_X7_cancelOf
theorem dX7_cancels_0 : decode cX7_cancels 0 = .ok (.aload_n 0, 1) := by decide +kernel
theorem dX7_cancels_1 : decode cX7_cancels 1 = .ok (.iload_n 1, 1) := by decide +kernel
theorem dX7_cancels_2 : decode cX7_cancels 2 = .ok (.iload_n 2, 1) := by decide +kernel
theorem dX7_cancels_3 : decode cX7_cancels 3 = .ok (.invokevirtual 104, 3) := by decide +kernel
theorem dX7_cancels_6 : decode cX7_cancels 6 = .ok (.ifCond .eq 27, 3) := by decide +kernel
theorem dX7_cancels_9 : decode cX7_cancels 9 = .ok (.aload_n 0, 1) := by decide +kernel
theorem dX7_cancels_10 : decode cX7_cancels 10 = .ok (.getfield 7, 3) := by decide +kernel
theorem dX7_cancels_13 : decode cX7_cancels 13 = .ok (.iload_n 1, 1) := by decide +kernel
theorem dX7_cancels_14 : decode cX7_cancels 14 = .ok (.iaload, 1) := by decide +kernel
theorem dX7_cancels_15 : decode cX7_cancels 15 = .ok (.aload_n 0, 1) := by decide +kernel
theorem dX7_cancels_16 : decode cX7_cancels 16 = .ok (.getfield 13, 3) := by decide +kernel
theorem dX7_cancels_19 : decode cX7_cancels 19 = .ok (.iload_n 1, 1) := by decide +kernel
theorem dX7_cancels_20 : decode cX7_cancels 20 = .ok (.laload, 1) := by decide +kernel
theorem dX7_cancels_21 : decode cX7_cancels 21 = .ok (.aload_n 0, 1) := by decide +kernel
theorem dX7_cancels_22 : decode cX7_cancels 22 = .ok (.getfield 13, 3) := by decide +kernel
theorem dX7_cancels_25 : decode cX7_cancels 25 = .ok (.iload_n 2, 1) := by decide +kernel
theorem dX7_cancels_26 : decode cX7_cancels 26 = .ok (.laload, 1) := by decide +kernel
theorem dX7_cancels_27 : decode cX7_cancels 27 = .ok (.invokestatic 108, 3) := by decide +kernel
theorem dX7_cancels_30 : decode cX7_cancels 30 = .ok (.goto 4, 3) := by decide +kernel
theorem dX7_cancels_33 : decode cX7_cancels 33 = .ok (.iconst (-1), 1) := by decide +kernel
theorem dX7_cancels_34 : decode cX7_cancels 34 = .ok (.ireturn, 1) := by decide +kernel
set_option maxRecDepth 20000 in
theorem ggX7_four_X7_areLike : GoodIn wsX7_four wsX7_areLike := goodIn_r _ [7, 1, 8, 9, 10, 6, 11, 12, 13, 14, 15, 22, 23, 24, 25, 26, 27, 28, 29, 30, 31, 32, 33, 34, 35, 36, 37] (by decide +kernel) (by decide +kernel)
set_option maxRecDepth 20000 in
theorem gX7_four_X7_areLike : GoodIn wsX7_four (wsV RX7 104 RX7 yX7_areLike wsX7_areLike) := goodIn_app (goodIn_of _ (by decide +kernel)) ggX7_four_X7_areLike
set_option maxRecDepth 20000 in
theorem ggX7_four_X7_roundOf : GoodIn wsX7_four wsX7_roundOf := goodIn_r _ [18, 19, 20, 6, 21] (by decide +kernel) (by decide +kernel)
set_option maxRecDepth 20000 in
theorem gX7_four_X7_roundOf : GoodIn wsX7_four (va_wsS RX7 80 yX7_roundOf wsX7_roundOf) := goodIn_app (goodIn_of _ (by decide +kernel)) ggX7_four_X7_roundOf
theorem dX7_four_0 : decode cX7_four 0 = .ok (.aload_n 0, 1) := by decide +kernel
theorem dX7_four_1 : decode cX7_four 1 = .ok (.iload_n 1, 1) := by decide +kernel
theorem dX7_four_2 : decode cX7_four 2 = .ok (.iload_n 2, 1) := by decide +kernel
theorem dX7_four_3 : decode cX7_four 3 = .ok (.invokevirtual 104, 3) := by decide +kernel
theorem dX7_four_6 : decode cX7_four 6 = .ok (.ifCond .eq 22, 3) := by decide +kernel
theorem dX7_four_9 : decode cX7_four 9 = .ok (.aload_n 0, 1) := by decide +kernel
theorem dX7_four_10 : decode cX7_four 10 = .ok (.iload_n 1, 1) := by decide +kernel
theorem dX7_four_11 : decode cX7_four 11 = .ok (.iload_n 3, 1) := by decide +kernel
theorem dX7_four_12 : decode cX7_four 12 = .ok (.invokevirtual 104, 3) := by decide +kernel
theorem dX7_four_15 : decode cX7_four 15 = .ok (.ifCond .eq 13, 3) := by decide +kernel
theorem dX7_four_18 : decode cX7_four 18 = .ok (.aload_n 0, 1) := by decide +kernel
theorem dX7_four_19 : decode cX7_four 19 = .ok (.iload_n 1, 1) := by decide +kernel
theorem dX7_four_20 : decode cX7_four 20 = .ok (.iload 4, 2) := by decide +kernel
theorem dX7_four_22 : decode cX7_four 22 = .ok (.invokevirtual 104, 3) := by decide +kernel
theorem dX7_four_25 : decode cX7_four 25 = .ok (.ifCond .ne 5, 3) := by decide +kernel
theorem dX7_four_28 : decode cX7_four 28 = .ok (.iconst (-1), 1) := by decide +kernel
theorem dX7_four_29 : decode cX7_four 29 = .ok (.ireturn, 1) := by decide +kernel
theorem dX7_four_30 : decode cX7_four 30 = .ok (.aload_n 0, 1) := by decide +kernel
theorem dX7_four_31 : decode cX7_four 31 = .ok (.getfield 7, 3) := by decide +kernel
theorem dX7_four_34 : decode cX7_four 34 = .ok (.iload_n 1, 1) := by decide +kernel
theorem dX7_four_35 : decode cX7_four 35 = .ok (.iaload, 1) := by decide +kernel
theorem dX7_four_36 : decode cX7_four 36 = .ok (.istore 5, 2) := by decide +kernel
theorem dX7_four_38 : decode cX7_four 38 = .ok (.iconst 1, 1) := by decide +kernel
theorem dX7_four_39 : decode cX7_four 39 = .ok (.istore 6, 2) := by decide +kernel
theorem dX7_four_41 : decode cX7_four 41 = .ok (.iload 6, 2) := by decide +kernel
theorem dX7_four_43 : decode cX7_four 43 = .ok (.iload 5, 2) := by decide +kernel
theorem dX7_four_45 : decode cX7_four 45 = .ok (.if_icmp .ge 71, 3) := by decide +kernel
theorem dX7_four_48 : decode cX7_four 48 = .ok (.iload 5, 2) := by decide +kernel
theorem dX7_four_50 : decode cX7_four 50 = .ok (.aload_n 0, 1) := by decide +kernel
theorem dX7_four_51 : decode cX7_four 51 = .ok (.getfield 13, 3) := by decide +kernel
theorem dX7_four_54 : decode cX7_four 54 = .ok (.iload_n 1, 1) := by decide +kernel
theorem dX7_four_55 : decode cX7_four 55 = .ok (.laload, 1) := by decide +kernel
theorem dX7_four_56 : decode cX7_four 56 = .ok (.iload 6, 2) := by decide +kernel
theorem dX7_four_58 : decode cX7_four 58 = .ok (.invokestatic 80, 3) := by decide +kernel
theorem dX7_four_61 : decode cX7_four 61 = .ok (.iload 5, 2) := by decide +kernel
theorem dX7_four_63 : decode cX7_four 63 = .ok (.aload_n 0, 1) := by decide +kernel
theorem dX7_four_64 : decode cX7_four 64 = .ok (.getfield 13, 3) := by decide +kernel
theorem dX7_four_67 : decode cX7_four 67 = .ok (.iload_n 2, 1) := by decide +kernel
theorem dX7_four_68 : decode cX7_four 68 = .ok (.laload, 1) := by decide +kernel
theorem dX7_four_69 : decode cX7_four 69 = .ok (.iload 6, 2) := by decide +kernel
theorem dX7_four_71 : decode cX7_four 71 = .ok (.invokestatic 80, 3) := by decide +kernel
theorem dX7_four_74 : decode cX7_four 74 = .ok (.iadd, 1) := by decide +kernel
theorem dX7_four_75 : decode cX7_four 75 = .ok (.iload 5, 2) := by decide +kernel
theorem dX7_four_77 : decode cX7_four 77 = .ok (.aload_n 0, 1) := by decide +kernel
theorem dX7_four_78 : decode cX7_four 78 = .ok (.getfield 13, 3) := by decide +kernel
theorem dX7_four_81 : decode cX7_four 81 = .ok (.iload_n 3, 1) := by decide +kernel
theorem dX7_four_82 : decode cX7_four 82 = .ok (.laload, 1) := by decide +kernel
theorem dX7_four_83 : decode cX7_four 83 = .ok (.iload 6, 2) := by decide +kernel
theorem dX7_four_85 : decode cX7_four 85 = .ok (.invokestatic 80, 3) := by decide +kernel
theorem dX7_four_88 : decode cX7_four 88 = .ok (.iadd, 1) := by decide +kernel
theorem dX7_four_89 : decode cX7_four 89 = .ok (.iload 5, 2) := by decide +kernel
theorem dX7_four_91 : decode cX7_four 91 = .ok (.aload_n 0, 1) := by decide +kernel
theorem dX7_four_92 : decode cX7_four 92 = .ok (.getfield 13, 3) := by decide +kernel
theorem dX7_four_95 : decode cX7_four 95 = .ok (.iload 4, 2) := by decide +kernel
theorem dX7_four_97 : decode cX7_four 97 = .ok (.laload, 1) := by decide +kernel
theorem dX7_four_98 : decode cX7_four 98 = .ok (.iload 6, 2) := by decide +kernel
theorem dX7_four_100 : decode cX7_four 100 = .ok (.invokestatic 80, 3) := by decide +kernel
theorem dX7_four_103 : decode cX7_four 103 = .ok (.iadd, 1) := by decide +kernel
theorem dX7_four_104 : decode cX7_four 104 = .ok (.ifCond .eq 6, 3) := by decide +kernel
theorem dX7_four_107 : decode cX7_four 107 = .ok (.iload 6, 2) := by decide +kernel
theorem dX7_four_109 : decode cX7_four 109 = .ok (.ireturn, 1) := by decide +kernel
theorem dX7_four_110 : decode cX7_four 110 = .ok (.iinc 6 1, 3) := by decide +kernel
theorem dX7_four_113 : decode cX7_four 113 = .ok (.goto (-72), 3) := by decide +kernel
theorem dX7_four_116 : decode cX7_four 116 = .ok (.iconst 0, 1) := by decide +kernel
theorem dX7_four_117 : decode cX7_four 117 = .ok (.ireturn, 1) := by decide +kernel
theorem dX7_opposite_0 : decode cX7_opposite 0 = .ok (.lload_n 1, 1) := by decide +kernel
theorem dX7_opposite_1 : decode cX7_opposite 1 = .ok (.lconst 1, 1) := by decide +kernel
theorem dX7_opposite_2 : decode cX7_opposite 2 = .ok (.iload_n 0, 1) := by decide +kernel
theorem dX7_opposite_3 : decode cX7_opposite 3 = .ok (.lshl, 1) := by decide +kernel
theorem dX7_opposite_4 : decode cX7_opposite 4 = .ok (.lconst 1, 1) := by decide +kernel
theorem dX7_opposite_5 : decode cX7_opposite 5 = .ok (.lsub, 1) := by decide +kernel
theorem dX7_opposite_6 : decode cX7_opposite 6 = .ok (.lxor, 1) := by decide +kernel
theorem dX7_opposite_7 : decode cX7_opposite 7 = .ok (.lreturn, 1) := by decide +kernel
set_option maxRecDepth 20000 in
theorem ggX7_doubled_X7_areLike : GoodIn wsX7_doubled wsX7_areLike := goodIn_r _ [8, 1, 9, 10, 11, 7, 12, 2, 13, 14, 15, 26, 27, 28, 29, 30, 31, 32, 33, 34, 35, 36, 37, 38, 39, 40, 41] (by decide +kernel) (by decide +kernel)
set_option maxRecDepth 20000 in
theorem gX7_doubled_X7_areLike : GoodIn wsX7_doubled (wsV RX7 104 RX7 yX7_areLike wsX7_areLike) := goodIn_app (goodIn_of _ (by decide +kernel)) ggX7_doubled_X7_areLike
set_option maxRecDepth 20000 in
theorem ggX7_doubled_X7_behind : GoodIn wsX7_doubled wsX7_behind := goodIn_r _ [18] (by decide +kernel) (by decide +kernel)
set_option maxRecDepth 20000 in
theorem gX7_doubled_X7_behind : GoodIn wsX7_doubled (va_wsS RX7 100 yX7_behind wsX7_behind) := goodIn_app (goodIn_of _ (by decide +kernel)) ggX7_doubled_X7_behind
set_option maxRecDepth 20000 in
theorem ggX7_doubled_X7_added : GoodIn wsX7_doubled wsX7_added := goodIn_r _ [22, 1, 2, 3, 26, 27, 28, 29, 30, 31, 32, 33, 34, 35, 36, 37, 38, 39, 40, 41] (by decide +kernel) (by decide +kernel)
set_option maxRecDepth 20000 in
theorem gX7_doubled_X7_added : GoodIn wsX7_doubled (wsV RX7 58 RX7 yX7_added wsX7_added) := goodIn_app (goodIn_of _ (by decide +kernel)) ggX7_doubled_X7_added
set_option maxRecDepth 20000 in
theorem ggX7_doubled_X7_opposite : GoodIn wsX7_doubled wsX7_opposite := goodIn_r _ [25] (by decide +kernel) (by decide +kernel)
set_option maxRecDepth 20000 in
theorem gX7_doubled_X7_opposite : GoodIn wsX7_doubled (va_wsS RX7 112 yX7_opposite wsX7_opposite) := goodIn_app (goodIn_of _ (by decide +kernel)) ggX7_doubled_X7_opposite
theorem dX7_doubled_0 : decode cX7_doubled 0 = .ok (.aload_n 0, 1) := by decide +kernel
theorem dX7_doubled_1 : decode cX7_doubled 1 = .ok (.iload_n 1, 1) := by decide +kernel
theorem dX7_doubled_2 : decode cX7_doubled 2 = .ok (.iload_n 2, 1) := by decide +kernel
theorem dX7_doubled_3 : decode cX7_doubled 3 = .ok (.invokevirtual 104, 3) := by decide +kernel
theorem dX7_doubled_6 : decode cX7_doubled 6 = .ok (.ifCond .ne 5, 3) := by decide +kernel
theorem dX7_doubled_9 : decode cX7_doubled 9 = .ok (.iconst (-1), 1) := by decide +kernel
theorem dX7_doubled_10 : decode cX7_doubled 10 = .ok (.ireturn, 1) := by decide +kernel
theorem dX7_doubled_11 : decode cX7_doubled 11 = .ok (.aload_n 0, 1) := by decide +kernel
theorem dX7_doubled_12 : decode cX7_doubled 12 = .ok (.getfield 7, 3) := by decide +kernel
theorem dX7_doubled_15 : decode cX7_doubled 15 = .ok (.iload_n 1, 1) := by decide +kernel
theorem dX7_doubled_16 : decode cX7_doubled 16 = .ok (.iaload, 1) := by decide +kernel
theorem dX7_doubled_17 : decode cX7_doubled 17 = .ok (.istore_n 3, 1) := by decide +kernel
theorem dX7_doubled_18 : decode cX7_doubled 18 = .ok (.aload_n 0, 1) := by decide +kernel
theorem dX7_doubled_19 : decode cX7_doubled 19 = .ok (.getfield 49, 3) := by decide +kernel
theorem dX7_doubled_22 : decode cX7_doubled 22 = .ok (.iconst 2, 1) := by decide +kernel
theorem dX7_doubled_23 : decode cX7_doubled 23 = .ok (.iadd, 1) := by decide +kernel
theorem dX7_doubled_24 : decode cX7_doubled 24 = .ok (.bipush 24, 2) := by decide +kernel
theorem dX7_doubled_26 : decode cX7_doubled 26 = .ok (.if_icmp .gt 11, 3) := by decide +kernel
theorem dX7_doubled_29 : decode cX7_doubled 29 = .ok (.iconst 2, 1) := by decide +kernel
theorem dX7_doubled_30 : decode cX7_doubled 30 = .ok (.iload_n 3, 1) := by decide +kernel
theorem dX7_doubled_31 : decode cX7_doubled 31 = .ok (.imul, 1) := by decide +kernel
theorem dX7_doubled_32 : decode cX7_doubled 32 = .ok (.bipush 32, 2) := by decide +kernel
theorem dX7_doubled_34 : decode cX7_doubled 34 = .ok (.if_icmp .le 6, 3) := by decide +kernel
theorem dX7_doubled_37 : decode cX7_doubled 37 = .ok (.bipush (-3), 2) := by decide +kernel
theorem dX7_doubled_39 : decode cX7_doubled 39 = .ok (.ireturn, 1) := by decide +kernel
theorem dX7_doubled_40 : decode cX7_doubled 40 = .ok (.aload_n 0, 1) := by decide +kernel
theorem dX7_doubled_41 : decode cX7_doubled 41 = .ok (.getfield 13, 3) := by decide +kernel
theorem dX7_doubled_44 : decode cX7_doubled 44 = .ok (.iload_n 1, 1) := by decide +kernel
theorem dX7_doubled_45 : decode cX7_doubled 45 = .ok (.laload, 1) := by decide +kernel
theorem dX7_doubled_46 : decode cX7_doubled 46 = .ok (.lstore 4, 2) := by decide +kernel
theorem dX7_doubled_48 : decode cX7_doubled 48 = .ok (.aload_n 0, 1) := by decide +kernel
theorem dX7_doubled_49 : decode cX7_doubled 49 = .ok (.getfield 13, 3) := by decide +kernel
theorem dX7_doubled_52 : decode cX7_doubled 52 = .ok (.iload_n 2, 1) := by decide +kernel
theorem dX7_doubled_53 : decode cX7_doubled 53 = .ok (.laload, 1) := by decide +kernel
theorem dX7_doubled_54 : decode cX7_doubled 54 = .ok (.lstore 6, 2) := by decide +kernel
theorem dX7_doubled_56 : decode cX7_doubled 56 = .ok (.aload_n 0, 1) := by decide +kernel
theorem dX7_doubled_57 : decode cX7_doubled 57 = .ok (.iconst 2, 1) := by decide +kernel
theorem dX7_doubled_58 : decode cX7_doubled 58 = .ok (.iload_n 3, 1) := by decide +kernel
theorem dX7_doubled_59 : decode cX7_doubled 59 = .ok (.imul, 1) := by decide +kernel
theorem dX7_doubled_60 : decode cX7_doubled 60 = .ok (.iload_n 3, 1) := by decide +kernel
theorem dX7_doubled_61 : decode cX7_doubled 61 = .ok (.lload 4, 2) := by decide +kernel
theorem dX7_doubled_63 : decode cX7_doubled 63 = .ok (.lload 6, 2) := by decide +kernel
theorem dX7_doubled_65 : decode cX7_doubled 65 = .ok (.invokestatic 100, 3) := by decide +kernel
theorem dX7_doubled_68 : decode cX7_doubled 68 = .ok (.invokevirtual 58, 3) := by decide +kernel
theorem dX7_doubled_71 : decode cX7_doubled 71 = .ok (.istore 8, 2) := by decide +kernel
theorem dX7_doubled_73 : decode cX7_doubled 73 = .ok (.aload_n 0, 1) := by decide +kernel
theorem dX7_doubled_74 : decode cX7_doubled 74 = .ok (.iconst 2, 1) := by decide +kernel
theorem dX7_doubled_75 : decode cX7_doubled 75 = .ok (.iload_n 3, 1) := by decide +kernel
theorem dX7_doubled_76 : decode cX7_doubled 76 = .ok (.imul, 1) := by decide +kernel
theorem dX7_doubled_77 : decode cX7_doubled 77 = .ok (.iload_n 3, 1) := by decide +kernel
theorem dX7_doubled_78 : decode cX7_doubled 78 = .ok (.lload 4, 2) := by decide +kernel
theorem dX7_doubled_80 : decode cX7_doubled 80 = .ok (.iload_n 3, 1) := by decide +kernel
theorem dX7_doubled_81 : decode cX7_doubled 81 = .ok (.lload 6, 2) := by decide +kernel
theorem dX7_doubled_83 : decode cX7_doubled 83 = .ok (.invokestatic 112, 3) := by decide +kernel
theorem dX7_doubled_86 : decode cX7_doubled 86 = .ok (.invokestatic 100, 3) := by decide +kernel
theorem dX7_doubled_89 : decode cX7_doubled 89 = .ok (.invokevirtual 58, 3) := by decide +kernel
theorem dX7_doubled_92 : decode cX7_doubled 92 = .ok (.istore 9, 2) := by decide +kernel
theorem dX7_doubled_94 : decode cX7_doubled 94 = .ok (.iload 8, 2) := by decide +kernel
theorem dX7_doubled_96 : decode cX7_doubled 96 = .ok (.ireturn, 1) := by decide +kernel
theorem dX7_ofBits_0 : decode cX7_ofBits 0 = .ok (.lconst 0, 1) := by decide +kernel
theorem dX7_ofBits_1 : decode cX7_ofBits 1 = .ok (.lstore_n 3, 1) := by decide +kernel
theorem dX7_ofBits_2 : decode cX7_ofBits 2 = .ok (.iconst 0, 1) := by decide +kernel
theorem dX7_ofBits_3 : decode cX7_ofBits 3 = .ok (.istore 5, 2) := by decide +kernel
theorem dX7_ofBits_5 : decode cX7_ofBits 5 = .ok (.iload 5, 2) := by decide +kernel
theorem dX7_ofBits_7 : decode cX7_ofBits 7 = .ok (.iload_n 0, 1) := by decide +kernel
theorem dX7_ofBits_8 : decode cX7_ofBits 8 = .ok (.if_icmp .ge 25, 3) := by decide +kernel
theorem dX7_ofBits_11 : decode cX7_ofBits 11 = .ok (.lload_n 3, 1) := by decide +kernel
theorem dX7_ofBits_12 : decode cX7_ofBits 12 = .ok (.lload_n 1, 1) := by decide +kernel
theorem dX7_ofBits_13 : decode cX7_ofBits 13 = .ok (.iload_n 0, 1) := by decide +kernel
theorem dX7_ofBits_14 : decode cX7_ofBits 14 = .ok (.iconst 1, 1) := by decide +kernel
theorem dX7_ofBits_15 : decode cX7_ofBits 15 = .ok (.isub, 1) := by decide +kernel
theorem dX7_ofBits_16 : decode cX7_ofBits 16 = .ok (.iload 5, 2) := by decide +kernel
theorem dX7_ofBits_18 : decode cX7_ofBits 18 = .ok (.isub, 1) := by decide +kernel
theorem dX7_ofBits_19 : decode cX7_ofBits 19 = .ok (.lshr, 1) := by decide +kernel
theorem dX7_ofBits_20 : decode cX7_ofBits 20 = .ok (.lconst 1, 1) := by decide +kernel
theorem dX7_ofBits_21 : decode cX7_ofBits 21 = .ok (.land, 1) := by decide +kernel
theorem dX7_ofBits_22 : decode cX7_ofBits 22 = .ok (.iload 5, 2) := by decide +kernel
theorem dX7_ofBits_24 : decode cX7_ofBits 24 = .ok (.lshl, 1) := by decide +kernel
theorem dX7_ofBits_25 : decode cX7_ofBits 25 = .ok (.lor, 1) := by decide +kernel
theorem dX7_ofBits_26 : decode cX7_ofBits 26 = .ok (.lstore_n 3, 1) := by decide +kernel
theorem dX7_ofBits_27 : decode cX7_ofBits 27 = .ok (.iinc 5 1, 3) := by decide +kernel
theorem dX7_ofBits_30 : decode cX7_ofBits 30 = .ok (.goto (-25), 3) := by decide +kernel
theorem dX7_ofBits_33 : decode cX7_ofBits 33 = .ok (.lload_n 3, 1) := by decide +kernel
theorem dX7_ofBits_34 : decode cX7_ofBits 34 = .ok (.lreturn, 1) := by decide +kernel
set_option maxRecDepth 20000 in
theorem ggX7_told_X7_in : GoodIn wsX7_told wsX7_in := goodIn_r _ [10] (by decide +kernel) (by decide +kernel)
set_option maxRecDepth 20000 in
theorem gX7_told_X7_in : GoodIn wsX7_told (va_wsS RX7 52 yX7_in wsX7_in) := goodIn_app (goodIn_of _ (by decide +kernel)) ggX7_told_X7_in
set_option maxRecDepth 20000 in
theorem ggX7_told_X7_ofBits : GoodIn wsX7_told wsX7_ofBits := goodIn_r _ [13] (by decide +kernel) (by decide +kernel)
set_option maxRecDepth 20000 in
theorem gX7_told_X7_ofBits : GoodIn wsX7_told (va_wsS RX7 123 yX7_ofBits wsX7_ofBits) := goodIn_app (goodIn_of _ (by decide +kernel)) ggX7_told_X7_ofBits
set_option maxRecDepth 20000 in
theorem ggX7_told_X7_behind : GoodIn wsX7_told wsX7_behind := goodIn_r _ [16] (by decide +kernel) (by decide +kernel)
set_option maxRecDepth 20000 in
theorem gX7_told_X7_behind : GoodIn wsX7_told (va_wsS RX7 100 yX7_behind wsX7_behind) := goodIn_app (goodIn_of _ (by decide +kernel)) ggX7_told_X7_behind
set_option maxRecDepth 20000 in
theorem ggX7_told_X7_opposite : GoodIn wsX7_told wsX7_opposite := goodIn_r _ [19] (by decide +kernel) (by decide +kernel)
set_option maxRecDepth 20000 in
theorem gX7_told_X7_opposite : GoodIn wsX7_told (va_wsS RX7 112 yX7_opposite wsX7_opposite) := goodIn_app (goodIn_of _ (by decide +kernel)) ggX7_told_X7_opposite
set_option maxRecDepth 20000 in
theorem ggX7_told_X7_added : GoodIn wsX7_told wsX7_added := goodIn_r _ [23, 24, 6, 25, 26, 27, 28, 29, 30, 31, 32, 33, 34, 35, 36, 37, 38, 39, 40, 41] (by decide +kernel) (by decide +kernel)
set_option maxRecDepth 20000 in
theorem gX7_told_X7_added : GoodIn wsX7_told (wsV RX7 58 RX7 yX7_added wsX7_added) := goodIn_app (goodIn_of _ (by decide +kernel)) ggX7_told_X7_added
theorem dX7_told_0 : decode cX7_told 0 = .ok (.iload_n 1, 1) := by decide +kernel
theorem dX7_told_1 : decode cX7_told 1 = .ok (.i2l, 1) := by decide +kernel
theorem dX7_told_2 : decode cX7_told 2 = .ok (.lconst 1, 1) := by decide +kernel
theorem dX7_told_3 : decode cX7_told 3 = .ok (.ldc2_w 56, 3) := by decide +kernel
theorem dX7_told_6 : decode cX7_told 6 = .ok (.invokestatic 52, 3) := by decide +kernel
theorem dX7_told_9 : decode cX7_told 9 = .ok (.ifCond .ne 5, 3) := by decide +kernel
theorem dX7_told_12 : decode cX7_told 12 = .ok (.iconst (-1), 1) := by decide +kernel
theorem dX7_told_13 : decode cX7_told 13 = .ok (.ireturn, 1) := by decide +kernel
theorem dX7_told_14 : decode cX7_told 14 = .ok (.iload_n 1, 1) := by decide +kernel
theorem dX7_told_15 : decode cX7_told 15 = .ok (.bipush 26, 2) := by decide +kernel
theorem dX7_told_17 : decode cX7_told 17 = .ok (.if_icmp .ne 8, 3) := by decide +kernel
theorem dX7_told_20 : decode cX7_told 20 = .ok (.bipush 26, 2) := by decide +kernel
theorem dX7_told_22 : decode cX7_told 22 = .ok (.goto 22, 3) := by decide +kernel
theorem dX7_told_25 : decode cX7_told 25 = .ok (.iload_n 1, 1) := by decide +kernel
theorem dX7_told_26 : decode cX7_told 26 = .ok (.bipush 10, 2) := by decide +kernel
theorem dX7_told_28 : decode cX7_told 28 = .ok (.irem, 1) := by decide +kernel
theorem dX7_told_29 : decode cX7_told 29 = .ok (.ifCond .ne 14, 3) := by decide +kernel
theorem dX7_told_32 : decode cX7_told 32 = .ok (.iload_n 1, 1) := by decide +kernel
theorem dX7_told_33 : decode cX7_told 33 = .ok (.bipush 30, 2) := by decide +kernel
theorem dX7_told_35 : decode cX7_told 35 = .ok (.if_icmp .ge 8, 3) := by decide +kernel
theorem dX7_told_38 : decode cX7_told 38 = .ok (.bipush 10, 2) := by decide +kernel
theorem dX7_told_40 : decode cX7_told 40 = .ok (.goto 4, 3) := by decide +kernel
theorem dX7_told_43 : decode cX7_told 43 = .ok (.iconst 1, 1) := by decide +kernel
theorem dX7_told_44 : decode cX7_told 44 = .ok (.istore_n 2, 1) := by decide +kernel
theorem dX7_told_45 : decode cX7_told 45 = .ok (.iload_n 2, 1) := by decide +kernel
theorem dX7_told_46 : decode cX7_told 46 = .ok (.bipush 26, 2) := by decide +kernel
theorem dX7_told_48 : decode cX7_told 48 = .ok (.if_icmp .ne 9, 3) := by decide +kernel
theorem dX7_told_51 : decode cX7_told 51 = .ok (.ldc2_w 115, 3) := by decide +kernel
theorem dX7_told_54 : decode cX7_told 54 = .ok (.goto 16, 3) := by decide +kernel
theorem dX7_told_57 : decode cX7_told 57 = .ok (.iload_n 2, 1) := by decide +kernel
theorem dX7_told_58 : decode cX7_told 58 = .ok (.bipush 10, 2) := by decide +kernel
theorem dX7_told_60 : decode cX7_told 60 = .ok (.if_icmp .ne 9, 3) := by decide +kernel
theorem dX7_told_63 : decode cX7_told 63 = .ok (.ldc2_w 117, 3) := by decide +kernel
theorem dX7_told_66 : decode cX7_told 66 = .ok (.goto 4, 3) := by decide +kernel
theorem dX7_told_69 : decode cX7_told 69 = .ok (.lconst 0, 1) := by decide +kernel
theorem dX7_told_70 : decode cX7_told 70 = .ok (.lstore_n 3, 1) := by decide +kernel
theorem dX7_told_71 : decode cX7_told 71 = .ok (.iload_n 2, 1) := by decide +kernel
theorem dX7_told_72 : decode cX7_told 72 = .ok (.bipush 26, 2) := by decide +kernel
theorem dX7_told_74 : decode cX7_told 74 = .ok (.if_icmp .ne 9, 3) := by decide +kernel
theorem dX7_told_77 : decode cX7_told 77 = .ok (.ldc2_w 119, 3) := by decide +kernel
theorem dX7_told_80 : decode cX7_told 80 = .ok (.goto 16, 3) := by decide +kernel
theorem dX7_told_83 : decode cX7_told 83 = .ok (.iload_n 2, 1) := by decide +kernel
theorem dX7_told_84 : decode cX7_told 84 = .ok (.bipush 10, 2) := by decide +kernel
theorem dX7_told_86 : decode cX7_told 86 = .ok (.if_icmp .ne 9, 3) := by decide +kernel
theorem dX7_told_89 : decode cX7_told 89 = .ok (.ldc2_w 121, 3) := by decide +kernel
theorem dX7_told_92 : decode cX7_told 92 = .ok (.goto 4, 3) := by decide +kernel
theorem dX7_told_95 : decode cX7_told 95 = .ok (.lconst 0, 1) := by decide +kernel
theorem dX7_told_96 : decode cX7_told 96 = .ok (.lstore 5, 2) := by decide +kernel
theorem dX7_told_98 : decode cX7_told 98 = .ok (.iload_n 2, 1) := by decide +kernel
theorem dX7_told_99 : decode cX7_told 99 = .ok (.istore 7, 2) := by decide +kernel
theorem dX7_told_101 : decode cX7_told 101 = .ok (.iload 7, 2) := by decide +kernel
theorem dX7_told_103 : decode cX7_told 103 = .ok (.iload_n 1, 1) := by decide +kernel
theorem dX7_told_104 : decode cX7_told 104 = .ok (.if_icmp .ge 12, 3) := by decide +kernel
theorem dX7_told_107 : decode cX7_told 107 = .ok (.iload 7, 2) := by decide +kernel
theorem dX7_told_109 : decode cX7_told 109 = .ok (.iconst 2, 1) := by decide +kernel
theorem dX7_told_110 : decode cX7_told 110 = .ok (.imul, 1) := by decide +kernel
theorem dX7_told_111 : decode cX7_told 111 = .ok (.istore 7, 2) := by decide +kernel
theorem dX7_told_113 : decode cX7_told 113 = .ok (.goto (-12), 3) := by decide +kernel
theorem dX7_told_116 : decode cX7_told 116 = .ok (.iload 7, 2) := by decide +kernel
theorem dX7_told_118 : decode cX7_told 118 = .ok (.iload_n 1, 1) := by decide +kernel
theorem dX7_told_119 : decode cX7_told 119 = .ok (.if_icmp .eq 6, 3) := by decide +kernel
theorem dX7_told_122 : decode cX7_told 122 = .ok (.bipush (-4), 2) := by decide +kernel
theorem dX7_told_124 : decode cX7_told 124 = .ok (.ireturn, 1) := by decide +kernel
theorem dX7_told_125 : decode cX7_told 125 = .ok (.aload_n 0, 1) := by decide +kernel
theorem dX7_told_126 : decode cX7_told 126 = .ok (.getfield 49, 3) := by decide +kernel
theorem dX7_told_129 : decode cX7_told 129 = .ok (.iconst 2, 1) := by decide +kernel
theorem dX7_told_130 : decode cX7_told 130 = .ok (.iadd, 1) := by decide +kernel
theorem dX7_told_131 : decode cX7_told 131 = .ok (.bipush 24, 2) := by decide +kernel
theorem dX7_told_133 : decode cX7_told 133 = .ok (.if_icmp .le 6, 3) := by decide +kernel
theorem dX7_told_136 : decode cX7_told 136 = .ok (.bipush (-3), 2) := by decide +kernel
theorem dX7_told_138 : decode cX7_told 138 = .ok (.ireturn, 1) := by decide +kernel
theorem dX7_told_139 : decode cX7_told 139 = .ok (.iload_n 2, 1) := by decide +kernel
theorem dX7_told_140 : decode cX7_told 140 = .ok (.lload_n 3, 1) := by decide +kernel
theorem dX7_told_141 : decode cX7_told 141 = .ok (.invokestatic 123, 3) := by decide +kernel
theorem dX7_told_144 : decode cX7_told 144 = .ok (.lstore_n 3, 1) := by decide +kernel
theorem dX7_told_145 : decode cX7_told 145 = .ok (.iload_n 2, 1) := by decide +kernel
theorem dX7_told_146 : decode cX7_told 146 = .ok (.lload 5, 2) := by decide +kernel
theorem dX7_told_148 : decode cX7_told 148 = .ok (.invokestatic 123, 3) := by decide +kernel
theorem dX7_told_151 : decode cX7_told 151 = .ok (.lstore 5, 2) := by decide +kernel
theorem dX7_told_153 : decode cX7_told 153 = .ok (.iload_n 2, 1) := by decide +kernel
theorem dX7_told_154 : decode cX7_told 154 = .ok (.istore 8, 2) := by decide +kernel
theorem dX7_told_156 : decode cX7_told 156 = .ok (.iload 8, 2) := by decide +kernel
theorem dX7_told_158 : decode cX7_told 158 = .ok (.iload_n 1, 1) := by decide +kernel
theorem dX7_told_159 : decode cX7_told 159 = .ok (.if_icmp .ge 40, 3) := by decide +kernel
theorem dX7_told_162 : decode cX7_told 162 = .ok (.iload 8, 2) := by decide +kernel
theorem dX7_told_164 : decode cX7_told 164 = .ok (.lload_n 3, 1) := by decide +kernel
theorem dX7_told_165 : decode cX7_told 165 = .ok (.lload 5, 2) := by decide +kernel
theorem dX7_told_167 : decode cX7_told 167 = .ok (.invokestatic 100, 3) := by decide +kernel
theorem dX7_told_170 : decode cX7_told 170 = .ok (.lstore 9, 2) := by decide +kernel
theorem dX7_told_172 : decode cX7_told 172 = .ok (.iload 8, 2) := by decide +kernel
theorem dX7_told_174 : decode cX7_told 174 = .ok (.lload_n 3, 1) := by decide +kernel
theorem dX7_told_175 : decode cX7_told 175 = .ok (.iload 8, 2) := by decide +kernel
theorem dX7_told_177 : decode cX7_told 177 = .ok (.lload 5, 2) := by decide +kernel
theorem dX7_told_179 : decode cX7_told 179 = .ok (.invokestatic 112, 3) := by decide +kernel
theorem dX7_told_182 : decode cX7_told 182 = .ok (.invokestatic 100, 3) := by decide +kernel
theorem dX7_told_185 : decode cX7_told 185 = .ok (.lstore 5, 2) := by decide +kernel
theorem dX7_told_187 : decode cX7_told 187 = .ok (.lload 9, 2) := by decide +kernel
theorem dX7_told_189 : decode cX7_told 189 = .ok (.lstore_n 3, 1) := by decide +kernel
theorem dX7_told_190 : decode cX7_told 190 = .ok (.iload 8, 2) := by decide +kernel
theorem dX7_told_192 : decode cX7_told 192 = .ok (.iconst 2, 1) := by decide +kernel
theorem dX7_told_193 : decode cX7_told 193 = .ok (.imul, 1) := by decide +kernel
theorem dX7_told_194 : decode cX7_told 194 = .ok (.istore 8, 2) := by decide +kernel
theorem dX7_told_196 : decode cX7_told 196 = .ok (.goto (-40), 3) := by decide +kernel
theorem dX7_told_199 : decode cX7_told 199 = .ok (.aload_n 0, 1) := by decide +kernel
theorem dX7_told_200 : decode cX7_told 200 = .ok (.iload_n 1, 1) := by decide +kernel
theorem dX7_told_201 : decode cX7_told 201 = .ok (.lload_n 3, 1) := by decide +kernel
theorem dX7_told_202 : decode cX7_told 202 = .ok (.invokevirtual 58, 3) := by decide +kernel
theorem dX7_told_205 : decode cX7_told 205 = .ok (.istore 8, 2) := by decide +kernel
theorem dX7_told_207 : decode cX7_told 207 = .ok (.aload_n 0, 1) := by decide +kernel
theorem dX7_told_208 : decode cX7_told 208 = .ok (.iload_n 1, 1) := by decide +kernel
theorem dX7_told_209 : decode cX7_told 209 = .ok (.lload 5, 2) := by decide +kernel
theorem dX7_told_211 : decode cX7_told 211 = .ok (.invokevirtual 58, 3) := by decide +kernel
theorem dX7_told_214 : decode cX7_told 214 = .ok (.istore 9, 2) := by decide +kernel
theorem dX7_told_216 : decode cX7_told 216 = .ok (.iload 8, 2) := by decide +kernel
theorem dX7_told_218 : decode cX7_told 218 = .ok (.ireturn, 1) := by decide +kernel
set_option maxRecDepth 20000 in
theorem ggX7_why_X7_in : GoodIn wsX7_why wsX7_in := goodIn_r _ [5] (by decide +kernel) (by decide +kernel)
set_option maxRecDepth 20000 in
theorem gX7_why_X7_in : GoodIn wsX7_why (va_wsS RX7 52 yX7_in wsX7_in) := goodIn_app (goodIn_of _ (by decide +kernel)) ggX7_why_X7_in
set_option maxRecDepth 20000 in
theorem ggX7_why_X7_ways : GoodIn wsX7_why wsX7_ways := goodIn_r _ [8, 9, 10, 4, 11] (by decide +kernel) (by decide +kernel)
set_option maxRecDepth 20000 in
theorem gX7_why_X7_ways : GoodIn wsX7_why (va_wsS RX7 128 yX7_ways wsX7_ways) := goodIn_app (goodIn_of _ (by decide +kernel)) ggX7_why_X7_ways
theorem dX7_why_0 : decode cX7_why 0 = .ok (.iload_n 1, 1) := by decide +kernel
theorem dX7_why_1 : decode cX7_why 1 = .ok (.i2l, 1) := by decide +kernel
theorem dX7_why_2 : decode cX7_why 2 = .ok (.lconst 1, 1) := by decide +kernel
theorem dX7_why_3 : decode cX7_why 3 = .ok (.ldc2_w 126, 3) := by decide +kernel
theorem dX7_why_6 : decode cX7_why 6 = .ok (.invokestatic 52, 3) := by decide +kernel
theorem dX7_why_9 : decode cX7_why 9 = .ok (.ifCond .ne 5, 3) := by decide +kernel
theorem dX7_why_12 : decode cX7_why 12 = .ok (.iconst (-1), 1) := by decide +kernel
theorem dX7_why_13 : decode cX7_why 13 = .ok (.ireturn, 1) := by decide +kernel
theorem dX7_why_14 : decode cX7_why 14 = .ok (.iload_n 1, 1) := by decide +kernel
theorem dX7_why_15 : decode cX7_why 15 = .ok (.iconst 2, 1) := by decide +kernel
theorem dX7_why_16 : decode cX7_why 16 = .ok (.irem, 1) := by decide +kernel
theorem dX7_why_17 : decode cX7_why 17 = .ok (.iconst 1, 1) := by decide +kernel
theorem dX7_why_18 : decode cX7_why 18 = .ok (.if_icmp .ne 10, 3) := by decide +kernel
theorem dX7_why_21 : decode cX7_why 21 = .ok (.iload_n 1, 1) := by decide +kernel
theorem dX7_why_22 : decode cX7_why 22 = .ok (.iconst 1, 1) := by decide +kernel
theorem dX7_why_23 : decode cX7_why 23 = .ok (.if_icmp .le 5, 3) := by decide +kernel
theorem dX7_why_26 : decode cX7_why 26 = .ok (.iconst 1, 1) := by decide +kernel
theorem dX7_why_27 : decode cX7_why 27 = .ok (.ireturn, 1) := by decide +kernel
theorem dX7_why_28 : decode cX7_why 28 = .ok (.iload_n 1, 1) := by decide +kernel
theorem dX7_why_29 : decode cX7_why 29 = .ok (.iconst 2, 1) := by decide +kernel
theorem dX7_why_30 : decode cX7_why 30 = .ok (.invokestatic 128, 3) := by decide +kernel
theorem dX7_why_33 : decode cX7_why 33 = .ok (.ifCond .ne 5, 3) := by decide +kernel
theorem dX7_why_36 : decode cX7_why 36 = .ok (.iconst 2, 1) := by decide +kernel
theorem dX7_why_37 : decode cX7_why 37 = .ok (.ireturn, 1) := by decide +kernel
theorem dX7_why_38 : decode cX7_why 38 = .ok (.iload_n 1, 1) := by decide +kernel
theorem dX7_why_39 : decode cX7_why 39 = .ok (.istore_n 2, 1) := by decide +kernel
theorem dX7_why_40 : decode cX7_why 40 = .ok (.iconst 2, 1) := by decide +kernel
theorem dX7_why_41 : decode cX7_why 41 = .ok (.istore_n 3, 1) := by decide +kernel
theorem dX7_why_42 : decode cX7_why 42 = .ok (.iload_n 2, 1) := by decide +kernel
theorem dX7_why_43 : decode cX7_why 43 = .ok (.iconst 1, 1) := by decide +kernel
theorem dX7_why_44 : decode cX7_why 44 = .ok (.if_icmp .le 37, 3) := by decide +kernel
theorem dX7_why_47 : decode cX7_why 47 = .ok (.iload_n 2, 1) := by decide +kernel
theorem dX7_why_48 : decode cX7_why 48 = .ok (.iload_n 3, 1) := by decide +kernel
theorem dX7_why_49 : decode cX7_why 49 = .ok (.irem, 1) := by decide +kernel
theorem dX7_why_50 : decode cX7_why 50 = .ok (.ifCond .ne 25, 3) := by decide +kernel
theorem dX7_why_53 : decode cX7_why 53 = .ok (.iload_n 3, 1) := by decide +kernel
theorem dX7_why_54 : decode cX7_why 54 = .ok (.iconst 4, 1) := by decide +kernel
theorem dX7_why_55 : decode cX7_why 55 = .ok (.irem, 1) := by decide +kernel
theorem dX7_why_56 : decode cX7_why 56 = .ok (.iconst 3, 1) := by decide +kernel
theorem dX7_why_57 : decode cX7_why 57 = .ok (.if_icmp .ne 5, 3) := by decide +kernel
theorem dX7_why_60 : decode cX7_why 60 = .ok (.iconst 3, 1) := by decide +kernel
theorem dX7_why_61 : decode cX7_why 61 = .ok (.ireturn, 1) := by decide +kernel
theorem dX7_why_62 : decode cX7_why 62 = .ok (.iload_n 2, 1) := by decide +kernel
theorem dX7_why_63 : decode cX7_why 63 = .ok (.iload_n 3, 1) := by decide +kernel
theorem dX7_why_64 : decode cX7_why 64 = .ok (.irem, 1) := by decide +kernel
theorem dX7_why_65 : decode cX7_why 65 = .ok (.ifCond .ne 10, 3) := by decide +kernel
theorem dX7_why_68 : decode cX7_why 68 = .ok (.iload_n 2, 1) := by decide +kernel
theorem dX7_why_69 : decode cX7_why 69 = .ok (.iload_n 3, 1) := by decide +kernel
theorem dX7_why_70 : decode cX7_why 70 = .ok (.idiv, 1) := by decide +kernel
theorem dX7_why_71 : decode cX7_why 71 = .ok (.istore_n 2, 1) := by decide +kernel
theorem dX7_why_72 : decode cX7_why 72 = .ok (.goto (-10), 3) := by decide +kernel
theorem dX7_why_75 : decode cX7_why 75 = .ok (.iinc 3 1, 3) := by decide +kernel
theorem dX7_why_78 : decode cX7_why 78 = .ok (.goto (-36), 3) := by decide +kernel
theorem dX7_why_81 : decode cX7_why 81 = .ok (.iconst 0, 1) := by decide +kernel
theorem dX7_why_82 : decode cX7_why 82 = .ok (.ireturn, 1) := by decide +kernel
theorem dX7_rootOf_0 : decode cX7_rootOf 0 = .ok (.iconst 0, 1) := by decide +kernel
theorem dX7_rootOf_1 : decode cX7_rootOf 1 = .ok (.istore_n 1, 1) := by decide +kernel
theorem dX7_rootOf_2 : decode cX7_rootOf 2 = .ok (.sipush 1024, 3) := by decide +kernel
theorem dX7_rootOf_5 : decode cX7_rootOf 5 = .ok (.istore_n 2, 1) := by decide +kernel
theorem dX7_rootOf_6 : decode cX7_rootOf 6 = .ok (.iload_n 2, 1) := by decide +kernel
theorem dX7_rootOf_7 : decode cX7_rootOf 7 = .ok (.ifCond .le 25, 3) := by decide +kernel
theorem dX7_rootOf_10 : decode cX7_rootOf 10 = .ok (.iload_n 1, 1) := by decide +kernel
theorem dX7_rootOf_11 : decode cX7_rootOf 11 = .ok (.iload_n 2, 1) := by decide +kernel
theorem dX7_rootOf_12 : decode cX7_rootOf 12 = .ok (.iadd, 1) := by decide +kernel
theorem dX7_rootOf_13 : decode cX7_rootOf 13 = .ok (.iload_n 1, 1) := by decide +kernel
theorem dX7_rootOf_14 : decode cX7_rootOf 14 = .ok (.iload_n 2, 1) := by decide +kernel
theorem dX7_rootOf_15 : decode cX7_rootOf 15 = .ok (.iadd, 1) := by decide +kernel
theorem dX7_rootOf_16 : decode cX7_rootOf 16 = .ok (.imul, 1) := by decide +kernel
theorem dX7_rootOf_17 : decode cX7_rootOf 17 = .ok (.iload_n 0, 1) := by decide +kernel
theorem dX7_rootOf_18 : decode cX7_rootOf 18 = .ok (.if_icmp .gt 7, 3) := by decide +kernel
theorem dX7_rootOf_21 : decode cX7_rootOf 21 = .ok (.iload_n 1, 1) := by decide +kernel
theorem dX7_rootOf_22 : decode cX7_rootOf 22 = .ok (.iload_n 2, 1) := by decide +kernel
theorem dX7_rootOf_23 : decode cX7_rootOf 23 = .ok (.iadd, 1) := by decide +kernel
theorem dX7_rootOf_24 : decode cX7_rootOf 24 = .ok (.istore_n 1, 1) := by decide +kernel
theorem dX7_rootOf_25 : decode cX7_rootOf 25 = .ok (.iload_n 2, 1) := by decide +kernel
theorem dX7_rootOf_26 : decode cX7_rootOf 26 = .ok (.iconst 2, 1) := by decide +kernel
theorem dX7_rootOf_27 : decode cX7_rootOf 27 = .ok (.idiv, 1) := by decide +kernel
theorem dX7_rootOf_28 : decode cX7_rootOf 28 = .ok (.istore_n 2, 1) := by decide +kernel
theorem dX7_rootOf_29 : decode cX7_rootOf 29 = .ok (.goto (-23), 3) := by decide +kernel
theorem dX7_rootOf_32 : decode cX7_rootOf 32 = .ok (.iload_n 1, 1) := by decide +kernel
theorem dX7_rootOf_33 : decode cX7_rootOf 33 = .ok (.ireturn, 1) := by decide +kernel
set_option maxRecDepth 20000 in
theorem ggX7_ways_X7_rootOf : GoodIn wsX7_ways wsX7_rootOf := goodIn_r _ [4] (by decide +kernel) (by decide +kernel)
set_option maxRecDepth 20000 in
theorem gX7_ways_X7_rootOf : GoodIn wsX7_ways (va_wsS RX7 132 yX7_rootOf wsX7_rootOf) := goodIn_app (goodIn_of _ (by decide +kernel)) ggX7_ways_X7_rootOf
theorem dX7_ways_0 : decode cX7_ways 0 = .ok (.iconst 0, 1) := by decide +kernel
theorem dX7_ways_1 : decode cX7_ways 1 = .ok (.istore_n 2, 1) := by decide +kernel
theorem dX7_ways_2 : decode cX7_ways 2 = .ok (.iload_n 0, 1) := by decide +kernel
theorem dX7_ways_3 : decode cX7_ways 3 = .ok (.invokestatic 132, 3) := by decide +kernel
theorem dX7_ways_6 : decode cX7_ways 6 = .ok (.istore_n 3, 1) := by decide +kernel
theorem dX7_ways_7 : decode cX7_ways 7 = .ok (.iload_n 1, 1) := by decide +kernel
theorem dX7_ways_8 : decode cX7_ways 8 = .ok (.iconst 1, 1) := by decide +kernel
theorem dX7_ways_9 : decode cX7_ways 9 = .ok (.if_icmp .ne 16, 3) := by decide +kernel
theorem dX7_ways_12 : decode cX7_ways 12 = .ok (.iload_n 3, 1) := by decide +kernel
theorem dX7_ways_13 : decode cX7_ways 13 = .ok (.iload_n 3, 1) := by decide +kernel
theorem dX7_ways_14 : decode cX7_ways 14 = .ok (.imul, 1) := by decide +kernel
theorem dX7_ways_15 : decode cX7_ways 15 = .ok (.iload_n 0, 1) := by decide +kernel
theorem dX7_ways_16 : decode cX7_ways 16 = .ok (.if_icmp .ne 7, 3) := by decide +kernel
theorem dX7_ways_19 : decode cX7_ways 19 = .ok (.iconst 1, 1) := by decide +kernel
theorem dX7_ways_20 : decode cX7_ways 20 = .ok (.goto 4, 3) := by decide +kernel
theorem dX7_ways_23 : decode cX7_ways 23 = .ok (.iconst 0, 1) := by decide +kernel
theorem dX7_ways_24 : decode cX7_ways 24 = .ok (.ireturn, 1) := by decide +kernel
theorem dX7_ways_25 : decode cX7_ways 25 = .ok (.iload_n 3, 1) := by decide +kernel
theorem dX7_ways_26 : decode cX7_ways 26 = .ok (.ifCond .lt 190, 3) := by decide +kernel
theorem dX7_ways_29 : decode cX7_ways 29 = .ok (.iload_n 0, 1) := by decide +kernel
theorem dX7_ways_30 : decode cX7_ways 30 = .ok (.iload_n 3, 1) := by decide +kernel
theorem dX7_ways_31 : decode cX7_ways 31 = .ok (.iload_n 3, 1) := by decide +kernel
theorem dX7_ways_32 : decode cX7_ways 32 = .ok (.imul, 1) := by decide +kernel
theorem dX7_ways_33 : decode cX7_ways 33 = .ok (.isub, 1) := by decide +kernel
theorem dX7_ways_34 : decode cX7_ways 34 = .ok (.istore 4, 2) := by decide +kernel
theorem dX7_ways_36 : decode cX7_ways 36 = .ok (.iload 4, 2) := by decide +kernel
theorem dX7_ways_38 : decode cX7_ways 38 = .ok (.invokestatic 132, 3) := by decide +kernel
theorem dX7_ways_41 : decode cX7_ways 41 = .ok (.istore 5, 2) := by decide +kernel
theorem dX7_ways_43 : decode cX7_ways 43 = .ok (.iload 5, 2) := by decide +kernel
theorem dX7_ways_45 : decode cX7_ways 45 = .ok (.iload_n 3, 1) := by decide +kernel
theorem dX7_ways_46 : decode cX7_ways 46 = .ok (.if_icmp .le 7, 3) := by decide +kernel
theorem dX7_ways_49 : decode cX7_ways 49 = .ok (.iload_n 3, 1) := by decide +kernel
theorem dX7_ways_50 : decode cX7_ways 50 = .ok (.goto 5, 3) := by decide +kernel
theorem dX7_ways_53 : decode cX7_ways 53 = .ok (.iload 5, 2) := by decide +kernel
theorem dX7_ways_55 : decode cX7_ways 55 = .ok (.istore 5, 2) := by decide +kernel
theorem dX7_ways_57 : decode cX7_ways 57 = .ok (.iload_n 1, 1) := by decide +kernel
theorem dX7_ways_58 : decode cX7_ways 58 = .ok (.iconst 2, 1) := by decide +kernel
theorem dX7_ways_59 : decode cX7_ways 59 = .ok (.if_icmp .ne 21, 3) := by decide +kernel
theorem dX7_ways_62 : decode cX7_ways 62 = .ok (.iload_n 2, 1) := by decide +kernel
theorem dX7_ways_63 : decode cX7_ways 63 = .ok (.iload 4, 2) := by decide +kernel
theorem dX7_ways_65 : decode cX7_ways 65 = .ok (.iload 5, 2) := by decide +kernel
theorem dX7_ways_67 : decode cX7_ways 67 = .ok (.iload 5, 2) := by decide +kernel
theorem dX7_ways_69 : decode cX7_ways 69 = .ok (.imul, 1) := by decide +kernel
theorem dX7_ways_70 : decode cX7_ways 70 = .ok (.if_icmp .ne 7, 3) := by decide +kernel
theorem dX7_ways_73 : decode cX7_ways 73 = .ok (.iconst 1, 1) := by decide +kernel
theorem dX7_ways_74 : decode cX7_ways 74 = .ok (.goto 4, 3) := by decide +kernel
theorem dX7_ways_77 : decode cX7_ways 77 = .ok (.iconst 0, 1) := by decide +kernel
theorem dX7_ways_78 : decode cX7_ways 78 = .ok (.iadd, 1) := by decide +kernel
theorem dX7_ways_79 : decode cX7_ways 79 = .ok (.istore_n 2, 1) := by decide +kernel
theorem dX7_ways_80 : decode cX7_ways 80 = .ok (.iload 5, 2) := by decide +kernel
theorem dX7_ways_82 : decode cX7_ways 82 = .ok (.ifCond .lt 128, 3) := by decide +kernel
theorem dX7_ways_85 : decode cX7_ways 85 = .ok (.iload_n 1, 1) := by decide +kernel
theorem dX7_ways_86 : decode cX7_ways 86 = .ok (.iconst 2, 1) := by decide +kernel
theorem dX7_ways_87 : decode cX7_ways 87 = .ok (.if_icmp .le 123, 3) := by decide +kernel
theorem dX7_ways_90 : decode cX7_ways 90 = .ok (.iload 4, 2) := by decide +kernel
theorem dX7_ways_92 : decode cX7_ways 92 = .ok (.iload 5, 2) := by decide +kernel
theorem dX7_ways_94 : decode cX7_ways 94 = .ok (.iload 5, 2) := by decide +kernel
theorem dX7_ways_96 : decode cX7_ways 96 = .ok (.imul, 1) := by decide +kernel
theorem dX7_ways_97 : decode cX7_ways 97 = .ok (.isub, 1) := by decide +kernel
theorem dX7_ways_98 : decode cX7_ways 98 = .ok (.istore 6, 2) := by decide +kernel
theorem dX7_ways_100 : decode cX7_ways 100 = .ok (.iload 6, 2) := by decide +kernel
theorem dX7_ways_102 : decode cX7_ways 102 = .ok (.invokestatic 132, 3) := by decide +kernel
theorem dX7_ways_105 : decode cX7_ways 105 = .ok (.istore 7, 2) := by decide +kernel
theorem dX7_ways_107 : decode cX7_ways 107 = .ok (.iload 7, 2) := by decide +kernel
theorem dX7_ways_109 : decode cX7_ways 109 = .ok (.iload 5, 2) := by decide +kernel
theorem dX7_ways_111 : decode cX7_ways 111 = .ok (.if_icmp .le 8, 3) := by decide +kernel
theorem dX7_ways_114 : decode cX7_ways 114 = .ok (.iload 5, 2) := by decide +kernel
theorem dX7_ways_116 : decode cX7_ways 116 = .ok (.goto 5, 3) := by decide +kernel
theorem dX7_ways_119 : decode cX7_ways 119 = .ok (.iload 7, 2) := by decide +kernel
theorem dX7_ways_121 : decode cX7_ways 121 = .ok (.istore 7, 2) := by decide +kernel
theorem dX7_ways_123 : decode cX7_ways 123 = .ok (.iload_n 1, 1) := by decide +kernel
theorem dX7_ways_124 : decode cX7_ways 124 = .ok (.iconst 3, 1) := by decide +kernel
theorem dX7_ways_125 : decode cX7_ways 125 = .ok (.if_icmp .ne 21, 3) := by decide +kernel
theorem dX7_ways_128 : decode cX7_ways 128 = .ok (.iload_n 2, 1) := by decide +kernel
theorem dX7_ways_129 : decode cX7_ways 129 = .ok (.iload 6, 2) := by decide +kernel
theorem dX7_ways_131 : decode cX7_ways 131 = .ok (.iload 7, 2) := by decide +kernel
theorem dX7_ways_133 : decode cX7_ways 133 = .ok (.iload 7, 2) := by decide +kernel
theorem dX7_ways_135 : decode cX7_ways 135 = .ok (.imul, 1) := by decide +kernel
theorem dX7_ways_136 : decode cX7_ways 136 = .ok (.if_icmp .ne 7, 3) := by decide +kernel
theorem dX7_ways_139 : decode cX7_ways 139 = .ok (.iconst 1, 1) := by decide +kernel
theorem dX7_ways_140 : decode cX7_ways 140 = .ok (.goto 4, 3) := by decide +kernel
theorem dX7_ways_143 : decode cX7_ways 143 = .ok (.iconst 0, 1) := by decide +kernel
theorem dX7_ways_144 : decode cX7_ways 144 = .ok (.iadd, 1) := by decide +kernel
theorem dX7_ways_145 : decode cX7_ways 145 = .ok (.istore_n 2, 1) := by decide +kernel
theorem dX7_ways_146 : decode cX7_ways 146 = .ok (.iload 7, 2) := by decide +kernel
theorem dX7_ways_148 : decode cX7_ways 148 = .ok (.ifCond .lt 56, 3) := by decide +kernel
theorem dX7_ways_151 : decode cX7_ways 151 = .ok (.iload_n 1, 1) := by decide +kernel
theorem dX7_ways_152 : decode cX7_ways 152 = .ok (.iconst 3, 1) := by decide +kernel
theorem dX7_ways_153 : decode cX7_ways 153 = .ok (.if_icmp .le 51, 3) := by decide +kernel
theorem dX7_ways_156 : decode cX7_ways 156 = .ok (.iload 6, 2) := by decide +kernel
theorem dX7_ways_158 : decode cX7_ways 158 = .ok (.iload 7, 2) := by decide +kernel
theorem dX7_ways_160 : decode cX7_ways 160 = .ok (.iload 7, 2) := by decide +kernel
theorem dX7_ways_162 : decode cX7_ways 162 = .ok (.imul, 1) := by decide +kernel
theorem dX7_ways_163 : decode cX7_ways 163 = .ok (.isub, 1) := by decide +kernel
theorem dX7_ways_164 : decode cX7_ways 164 = .ok (.istore 8, 2) := by decide +kernel
theorem dX7_ways_166 : decode cX7_ways 166 = .ok (.iload 8, 2) := by decide +kernel
theorem dX7_ways_168 : decode cX7_ways 168 = .ok (.invokestatic 132, 3) := by decide +kernel
theorem dX7_ways_171 : decode cX7_ways 171 = .ok (.istore 9, 2) := by decide +kernel
theorem dX7_ways_173 : decode cX7_ways 173 = .ok (.iload_n 2, 1) := by decide +kernel
theorem dX7_ways_174 : decode cX7_ways 174 = .ok (.iload 9, 2) := by decide +kernel
theorem dX7_ways_176 : decode cX7_ways 176 = .ok (.iload 7, 2) := by decide +kernel
theorem dX7_ways_178 : decode cX7_ways 178 = .ok (.if_icmp .gt 17, 3) := by decide +kernel
theorem dX7_ways_181 : decode cX7_ways 181 = .ok (.iload 9, 2) := by decide +kernel
theorem dX7_ways_183 : decode cX7_ways 183 = .ok (.iload 9, 2) := by decide +kernel
theorem dX7_ways_185 : decode cX7_ways 185 = .ok (.imul, 1) := by decide +kernel
theorem dX7_ways_186 : decode cX7_ways 186 = .ok (.iload 8, 2) := by decide +kernel
theorem dX7_ways_188 : decode cX7_ways 188 = .ok (.if_icmp .ne 7, 3) := by decide +kernel
theorem dX7_ways_191 : decode cX7_ways 191 = .ok (.iconst 1, 1) := by decide +kernel
theorem dX7_ways_192 : decode cX7_ways 192 = .ok (.goto 4, 3) := by decide +kernel
theorem dX7_ways_195 : decode cX7_ways 195 = .ok (.iconst 0, 1) := by decide +kernel
theorem dX7_ways_196 : decode cX7_ways 196 = .ok (.iadd, 1) := by decide +kernel
theorem dX7_ways_197 : decode cX7_ways 197 = .ok (.istore_n 2, 1) := by decide +kernel
theorem dX7_ways_198 : decode cX7_ways 198 = .ok (.iinc 7 (-1), 3) := by decide +kernel
theorem dX7_ways_201 : decode cX7_ways 201 = .ok (.goto (-55), 3) := by decide +kernel
theorem dX7_ways_204 : decode cX7_ways 204 = .ok (.iinc 5 (-1), 3) := by decide +kernel
theorem dX7_ways_207 : decode cX7_ways 207 = .ok (.goto (-127), 3) := by decide +kernel
theorem dX7_ways_210 : decode cX7_ways 210 = .ok (.iinc 3 (-1), 3) := by decide +kernel
theorem dX7_ways_213 : decode cX7_ways 213 = .ok (.goto (-188), 3) := by decide +kernel
theorem dX7_ways_216 : decode cX7_ways 216 = .ok (.iload_n 2, 1) := by decide +kernel
theorem dX7_ways_217 : decode cX7_ways 217 = .ok (.ireturn, 1) := by decide +kernel
set_option maxRecDepth 20000 in
theorem ggX7_squares_X7_in : GoodIn wsX7_squares wsX7_in := goodIn_r _ [7] (by decide +kernel) (by decide +kernel)
set_option maxRecDepth 20000 in
theorem gX7_squares_X7_in : GoodIn wsX7_squares (va_wsS RX7 52 yX7_in wsX7_in) := goodIn_app (goodIn_of _ (by decide +kernel)) ggX7_squares_X7_in
set_option maxRecDepth 20000 in
theorem ggX7_squares_X7_ways : GoodIn wsX7_squares wsX7_ways := goodIn_r _ [10, 11, 12, 6, 13] (by decide +kernel) (by decide +kernel)
set_option maxRecDepth 20000 in
theorem gX7_squares_X7_ways : GoodIn wsX7_squares (va_wsS RX7 128 yX7_ways wsX7_ways) := goodIn_app (goodIn_of _ (by decide +kernel)) ggX7_squares_X7_ways
theorem dX7_squares_0 : decode cX7_squares 0 = .ok (.iload_n 2, 1) := by decide +kernel
theorem dX7_squares_1 : decode cX7_squares 1 = .ok (.i2l, 1) := by decide +kernel
theorem dX7_squares_2 : decode cX7_squares 2 = .ok (.lconst 1, 1) := by decide +kernel
theorem dX7_squares_3 : decode cX7_squares 3 = .ok (.ldc2_w 136, 3) := by decide +kernel
theorem dX7_squares_6 : decode cX7_squares 6 = .ok (.invokestatic 52, 3) := by decide +kernel
theorem dX7_squares_9 : decode cX7_squares 9 = .ok (.ifCond .eq 34, 3) := by decide +kernel
theorem dX7_squares_12 : decode cX7_squares 12 = .ok (.iload_n 1, 1) := by decide +kernel
theorem dX7_squares_13 : decode cX7_squares 13 = .ok (.i2l, 1) := by decide +kernel
theorem dX7_squares_14 : decode cX7_squares 14 = .ok (.lconst 0, 1) := by decide +kernel
theorem dX7_squares_15 : decode cX7_squares 15 = .ok (.iload_n 2, 1) := by decide +kernel
theorem dX7_squares_16 : decode cX7_squares 16 = .ok (.iconst 2, 1) := by decide +kernel
theorem dX7_squares_17 : decode cX7_squares 17 = .ok (.if_icmp .le 9, 3) := by decide +kernel
theorem dX7_squares_20 : decode cX7_squares 20 = .ok (.ldc2_w 138, 3) := by decide +kernel
theorem dX7_squares_23 : decode cX7_squares 23 = .ok (.goto 6, 3) := by decide +kernel
theorem dX7_squares_26 : decode cX7_squares 26 = .ok (.ldc2_w 126, 3) := by decide +kernel
theorem dX7_squares_29 : decode cX7_squares 29 = .ok (.invokestatic 52, 3) := by decide +kernel
theorem dX7_squares_32 : decode cX7_squares 32 = .ok (.ifCond .eq 11, 3) := by decide +kernel
theorem dX7_squares_35 : decode cX7_squares 35 = .ok (.iload_n 1, 1) := by decide +kernel
theorem dX7_squares_36 : decode cX7_squares 36 = .ok (.iload_n 2, 1) := by decide +kernel
theorem dX7_squares_37 : decode cX7_squares 37 = .ok (.invokestatic 128, 3) := by decide +kernel
theorem dX7_squares_40 : decode cX7_squares 40 = .ok (.goto 4, 3) := by decide +kernel
theorem dX7_squares_43 : decode cX7_squares 43 = .ok (.iconst (-1), 1) := by decide +kernel
theorem dX7_squares_44 : decode cX7_squares 44 = .ok (.ireturn, 1) := by decide +kernel
set_option maxRecDepth 20000 in
theorem ggX7_know_X7_openOf : GoodIn wsX7_know wsX7_openOf := goodIn_r _ [10, 11, 12, 9, 13] (by decide +kernel) (by decide +kernel)
set_option maxRecDepth 20000 in
theorem gX7_know_X7_openOf : GoodIn wsX7_know (va_wsS RX7 76 yX7_openOf wsX7_openOf) := goodIn_app (goodIn_of _ (by decide +kernel)) ggX7_know_X7_openOf
set_option maxRecDepth 20000 in
theorem ggX7_know_X7_isLeast : GoodIn wsX7_know wsX7_isLeast := goodIn_r _ [16, 17, 18, 9, 19, 11, 12, 13] (by decide +kernel) (by decide +kernel)
set_option maxRecDepth 20000 in
theorem gX7_know_X7_isLeast : GoodIn wsX7_know (va_wsS RX7 146 yX7_isLeast wsX7_isLeast) := goodIn_app (goodIn_of _ (by decide +kernel)) ggX7_know_X7_isLeast
theorem dX7_know_0 : decode cX7_know 0 = .ok (.aload_n 0, 1) := by decide +kernel
theorem dX7_know_1 : decode cX7_know 1 = .ok (.getfield 29, 3) := by decide +kernel
theorem dX7_know_4 : decode cX7_know 4 = .ok (.iload_n 1, 1) := by decide +kernel
theorem dX7_know_5 : decode cX7_know 5 = .ok (.if_icmp .ne 4, 3) := by decide +kernel
theorem dX7_know_8 : decode cX7_know 8 = .ok (.return_, 1) := by decide +kernel
theorem dX7_know_9 : decode cX7_know 9 = .ok (.aload_n 0, 1) := by decide +kernel
theorem dX7_know_10 : decode cX7_know 10 = .ok (.iload_n 1, 1) := by decide +kernel
theorem dX7_know_11 : decode cX7_know 11 = .ok (.putfield 29, 3) := by decide +kernel
theorem dX7_know_14 : decode cX7_know 14 = .ok (.iconst 1, 1) := by decide +kernel
theorem dX7_know_15 : decode cX7_know 15 = .ok (.iload_n 1, 1) := by decide +kernel
theorem dX7_know_16 : decode cX7_know 16 = .ok (.ishl, 1) := by decide +kernel
theorem dX7_know_17 : decode cX7_know 17 = .ok (.istore_n 2, 1) := by decide +kernel
theorem dX7_know_18 : decode cX7_know 18 = .ok (.iconst 0, 1) := by decide +kernel
theorem dX7_know_19 : decode cX7_know 19 = .ok (.istore_n 3, 1) := by decide +kernel
theorem dX7_know_20 : decode cX7_know 20 = .ok (.iload_n 3, 1) := by decide +kernel
theorem dX7_know_21 : decode cX7_know 21 = .ok (.iload_n 2, 1) := by decide +kernel
theorem dX7_know_22 : decode cX7_know 22 = .ok (.if_icmp .ge 44, 3) := by decide +kernel
theorem dX7_know_25 : decode cX7_know 25 = .ok (.iconst 1, 1) := by decide +kernel
theorem dX7_know_26 : decode cX7_know 26 = .ok (.istore 4, 2) := by decide +kernel
theorem dX7_know_28 : decode cX7_know 28 = .ok (.iload 4, 2) := by decide +kernel
theorem dX7_know_30 : decode cX7_know 30 = .ok (.iload_n 1, 1) := by decide +kernel
theorem dX7_know_31 : decode cX7_know 31 = .ok (.if_icmp .ge 29, 3) := by decide +kernel
theorem dX7_know_34 : decode cX7_know 34 = .ok (.aload_n 0, 1) := by decide +kernel
theorem dX7_know_35 : decode cX7_know 35 = .ok (.getfield 39, 3) := by decide +kernel
theorem dX7_know_38 : decode cX7_know 38 = .ok (.bipush 8, 2) := by decide +kernel
theorem dX7_know_40 : decode cX7_know 40 = .ok (.iload_n 3, 1) := by decide +kernel
theorem dX7_know_41 : decode cX7_know 41 = .ok (.imul, 1) := by decide +kernel
theorem dX7_know_42 : decode cX7_know 42 = .ok (.iload 4, 2) := by decide +kernel
theorem dX7_know_44 : decode cX7_know 44 = .ok (.iadd, 1) := by decide +kernel
theorem dX7_know_45 : decode cX7_know 45 = .ok (.iload_n 1, 1) := by decide +kernel
theorem dX7_know_46 : decode cX7_know 46 = .ok (.iload_n 3, 1) := by decide +kernel
theorem dX7_know_47 : decode cX7_know 47 = .ok (.i2l, 1) := by decide +kernel
theorem dX7_know_48 : decode cX7_know 48 = .ok (.iload 4, 2) := by decide +kernel
theorem dX7_know_50 : decode cX7_know 50 = .ok (.invokestatic 76, 3) := by decide +kernel
theorem dX7_know_53 : decode cX7_know 53 = .ok (.iastore, 1) := by decide +kernel
theorem dX7_know_54 : decode cX7_know 54 = .ok (.iinc 4 1, 3) := by decide +kernel
theorem dX7_know_57 : decode cX7_know 57 = .ok (.goto (-29), 3) := by decide +kernel
theorem dX7_know_60 : decode cX7_know 60 = .ok (.iinc 3 1, 3) := by decide +kernel
theorem dX7_know_63 : decode cX7_know 63 = .ok (.goto (-43), 3) := by decide +kernel
theorem dX7_know_66 : decode cX7_know 66 = .ok (.aload_n 0, 1) := by decide +kernel
theorem dX7_know_67 : decode cX7_know 67 = .ok (.iconst 0, 1) := by decide +kernel
theorem dX7_know_68 : decode cX7_know 68 = .ok (.putfield 140, 3) := by decide +kernel
theorem dX7_know_71 : decode cX7_know 71 = .ok (.aload_n 0, 1) := by decide +kernel
theorem dX7_know_72 : decode cX7_know 72 = .ok (.iconst 0, 1) := by decide +kernel
theorem dX7_know_73 : decode cX7_know 73 = .ok (.putfield 143, 3) := by decide +kernel
theorem dX7_know_76 : decode cX7_know 76 = .ok (.iconst 0, 1) := by decide +kernel
theorem dX7_know_77 : decode cX7_know 77 = .ok (.istore_n 3, 1) := by decide +kernel
theorem dX7_know_78 : decode cX7_know 78 = .ok (.iload_n 3, 1) := by decide +kernel
theorem dX7_know_79 : decode cX7_know 79 = .ok (.iload_n 2, 1) := by decide +kernel
theorem dX7_know_80 : decode cX7_know 80 = .ok (.if_icmp .ge 152, 3) := by decide +kernel
theorem dX7_know_83 : decode cX7_know 83 = .ok (.iconst 0, 1) := by decide +kernel
theorem dX7_know_84 : decode cX7_know 84 = .ok (.istore 4, 2) := by decide +kernel
theorem dX7_know_86 : decode cX7_know 86 = .ok (.iload 4, 2) := by decide +kernel
theorem dX7_know_88 : decode cX7_know 88 = .ok (.iload_n 2, 1) := by decide +kernel
theorem dX7_know_89 : decode cX7_know 89 = .ok (.if_icmp .ge 137, 3) := by decide +kernel
theorem dX7_know_92 : decode cX7_know 92 = .ok (.iconst 1, 1) := by decide +kernel
theorem dX7_know_93 : decode cX7_know 93 = .ok (.istore 5, 2) := by decide +kernel
theorem dX7_know_95 : decode cX7_know 95 = .ok (.iconst 1, 1) := by decide +kernel
theorem dX7_know_96 : decode cX7_know 96 = .ok (.istore 6, 2) := by decide +kernel
theorem dX7_know_98 : decode cX7_know 98 = .ok (.iload 6, 2) := by decide +kernel
theorem dX7_know_100 : decode cX7_know 100 = .ok (.iload_n 1, 1) := by decide +kernel
theorem dX7_know_101 : decode cX7_know 101 = .ok (.if_icmp .ge 50, 3) := by decide +kernel
theorem dX7_know_104 : decode cX7_know 104 = .ok (.iload 5, 2) := by decide +kernel
theorem dX7_know_106 : decode cX7_know 106 = .ok (.ifCond .eq 45, 3) := by decide +kernel
theorem dX7_know_109 : decode cX7_know 109 = .ok (.aload_n 0, 1) := by decide +kernel
theorem dX7_know_110 : decode cX7_know 110 = .ok (.getfield 39, 3) := by decide +kernel
theorem dX7_know_113 : decode cX7_know 113 = .ok (.bipush 8, 2) := by decide +kernel
theorem dX7_know_115 : decode cX7_know 115 = .ok (.iload_n 3, 1) := by decide +kernel
theorem dX7_know_116 : decode cX7_know 116 = .ok (.imul, 1) := by decide +kernel
theorem dX7_know_117 : decode cX7_know 117 = .ok (.iload 6, 2) := by decide +kernel
theorem dX7_know_119 : decode cX7_know 119 = .ok (.iadd, 1) := by decide +kernel
theorem dX7_know_120 : decode cX7_know 120 = .ok (.iaload, 1) := by decide +kernel
theorem dX7_know_121 : decode cX7_know 121 = .ok (.aload_n 0, 1) := by decide +kernel
theorem dX7_know_122 : decode cX7_know 122 = .ok (.getfield 39, 3) := by decide +kernel
theorem dX7_know_125 : decode cX7_know 125 = .ok (.bipush 8, 2) := by decide +kernel
theorem dX7_know_127 : decode cX7_know 127 = .ok (.iload 4, 2) := by decide +kernel
theorem dX7_know_129 : decode cX7_know 129 = .ok (.imul, 1) := by decide +kernel
theorem dX7_know_130 : decode cX7_know 130 = .ok (.iload 6, 2) := by decide +kernel
theorem dX7_know_132 : decode cX7_know 132 = .ok (.iadd, 1) := by decide +kernel
theorem dX7_know_133 : decode cX7_know 133 = .ok (.iaload, 1) := by decide +kernel
theorem dX7_know_134 : decode cX7_know 134 = .ok (.iadd, 1) := by decide +kernel
theorem dX7_know_135 : decode cX7_know 135 = .ok (.ifCond .ne 7, 3) := by decide +kernel
theorem dX7_know_138 : decode cX7_know 138 = .ok (.iconst 1, 1) := by decide +kernel
theorem dX7_know_139 : decode cX7_know 139 = .ok (.goto 4, 3) := by decide +kernel
theorem dX7_know_142 : decode cX7_know 142 = .ok (.iconst 0, 1) := by decide +kernel
theorem dX7_know_143 : decode cX7_know 143 = .ok (.istore 5, 2) := by decide +kernel
theorem dX7_know_145 : decode cX7_know 145 = .ok (.iinc 6 1, 3) := by decide +kernel
theorem dX7_know_148 : decode cX7_know 148 = .ok (.goto (-50), 3) := by decide +kernel
theorem dX7_know_151 : decode cX7_know 151 = .ok (.iload 5, 2) := by decide +kernel
theorem dX7_know_153 : decode cX7_know 153 = .ok (.ifCond .eq 67, 3) := by decide +kernel
theorem dX7_know_156 : decode cX7_know 156 = .ok (.aload_n 0, 1) := by decide +kernel
theorem dX7_know_157 : decode cX7_know 157 = .ok (.getfield 33, 3) := by decide +kernel
theorem dX7_know_160 : decode cX7_know 160 = .ok (.aload_n 0, 1) := by decide +kernel
theorem dX7_know_161 : decode cX7_know 161 = .ok (.getfield 140, 3) := by decide +kernel
theorem dX7_know_164 : decode cX7_know 164 = .ok (.sipush 1000, 3) := by decide +kernel
theorem dX7_know_167 : decode cX7_know 167 = .ok (.iload_n 3, 1) := by decide +kernel
theorem dX7_know_168 : decode cX7_know 168 = .ok (.imul, 1) := by decide +kernel
theorem dX7_know_169 : decode cX7_know 169 = .ok (.iload 4, 2) := by decide +kernel
theorem dX7_know_171 : decode cX7_know 171 = .ok (.iadd, 1) := by decide +kernel
theorem dX7_know_172 : decode cX7_know 172 = .ok (.iastore, 1) := by decide +kernel
theorem dX7_know_173 : decode cX7_know 173 = .ok (.aload_n 0, 1) := by decide +kernel
theorem dX7_know_174 : decode cX7_know 174 = .ok (.dup, 1) := by decide +kernel
theorem dX7_know_175 : decode cX7_know 175 = .ok (.getfield 140, 3) := by decide +kernel
theorem dX7_know_178 : decode cX7_know 178 = .ok (.iconst 1, 1) := by decide +kernel
theorem dX7_know_179 : decode cX7_know 179 = .ok (.iadd, 1) := by decide +kernel
theorem dX7_know_180 : decode cX7_know 180 = .ok (.putfield 140, 3) := by decide +kernel
theorem dX7_know_183 : decode cX7_know 183 = .ok (.iload_n 1, 1) := by decide +kernel
theorem dX7_know_184 : decode cX7_know 184 = .ok (.iload_n 3, 1) := by decide +kernel
theorem dX7_know_185 : decode cX7_know 185 = .ok (.iload 4, 2) := by decide +kernel
theorem dX7_know_187 : decode cX7_know 187 = .ok (.invokestatic 146, 3) := by decide +kernel
theorem dX7_know_190 : decode cX7_know 190 = .ok (.ifCond .eq 30, 3) := by decide +kernel
theorem dX7_know_193 : decode cX7_know 193 = .ok (.aload_n 0, 1) := by decide +kernel
theorem dX7_know_194 : decode cX7_know 194 = .ok (.getfield 36, 3) := by decide +kernel
theorem dX7_know_197 : decode cX7_know 197 = .ok (.aload_n 0, 1) := by decide +kernel
theorem dX7_know_198 : decode cX7_know 198 = .ok (.getfield 143, 3) := by decide +kernel
theorem dX7_know_201 : decode cX7_know 201 = .ok (.sipush 1000, 3) := by decide +kernel
theorem dX7_know_204 : decode cX7_know 204 = .ok (.iload_n 3, 1) := by decide +kernel
theorem dX7_know_205 : decode cX7_know 205 = .ok (.imul, 1) := by decide +kernel
theorem dX7_know_206 : decode cX7_know 206 = .ok (.iload 4, 2) := by decide +kernel
theorem dX7_know_208 : decode cX7_know 208 = .ok (.iadd, 1) := by decide +kernel
theorem dX7_know_209 : decode cX7_know 209 = .ok (.iastore, 1) := by decide +kernel
theorem dX7_know_210 : decode cX7_know 210 = .ok (.aload_n 0, 1) := by decide +kernel
theorem dX7_know_211 : decode cX7_know 211 = .ok (.dup, 1) := by decide +kernel
theorem dX7_know_212 : decode cX7_know 212 = .ok (.getfield 143, 3) := by decide +kernel
theorem dX7_know_215 : decode cX7_know 215 = .ok (.iconst 1, 1) := by decide +kernel
theorem dX7_know_216 : decode cX7_know 216 = .ok (.iadd, 1) := by decide +kernel
theorem dX7_know_217 : decode cX7_know 217 = .ok (.putfield 143, 3) := by decide +kernel
theorem dX7_know_220 : decode cX7_know 220 = .ok (.iinc 4 1, 3) := by decide +kernel
theorem dX7_know_223 : decode cX7_know 223 = .ok (.goto (-137), 3) := by decide +kernel
theorem dX7_know_226 : decode cX7_know 226 = .ok (.iinc 3 1, 3) := by decide +kernel
theorem dX7_know_229 : decode cX7_know 229 = .ok (.goto (-151), 3) := by decide +kernel
theorem dX7_know_232 : decode cX7_know 232 = .ok (.return_, 1) := by decide +kernel
set_option maxRecDepth 20000 in
theorem ggX7_isLeast_X7_turned : GoodIn wsX7_isLeast wsX7_turned := goodIn_r _ [4, 5, 6, 3, 7] (by decide +kernel) (by decide +kernel)
set_option maxRecDepth 20000 in
theorem gX7_isLeast_X7_turned : GoodIn wsX7_isLeast (va_wsS RX7 86 yX7_turned wsX7_turned) := goodIn_app (goodIn_of _ (by decide +kernel)) ggX7_isLeast_X7_turned
theorem dX7_isLeast_0 : decode cX7_isLeast 0 = .ok (.iconst 0, 1) := by decide +kernel
theorem dX7_isLeast_1 : decode cX7_isLeast 1 = .ok (.istore_n 3, 1) := by decide +kernel
theorem dX7_isLeast_2 : decode cX7_isLeast 2 = .ok (.iload_n 3, 1) := by decide +kernel
theorem dX7_isLeast_3 : decode cX7_isLeast 3 = .ok (.bipush 64, 2) := by decide +kernel
theorem dX7_isLeast_5 : decode cX7_isLeast 5 = .ok (.if_icmp .ge 198, 3) := by decide +kernel
theorem dX7_isLeast_8 : decode cX7_isLeast 8 = .ok (.iload_n 1, 1) := by decide +kernel
theorem dX7_isLeast_9 : decode cX7_isLeast 9 = .ok (.i2l, 1) := by decide +kernel
theorem dX7_isLeast_10 : decode cX7_isLeast 10 = .ok (.lstore 4, 2) := by decide +kernel
theorem dX7_isLeast_12 : decode cX7_isLeast 12 = .ok (.iload_n 2, 1) := by decide +kernel
theorem dX7_isLeast_13 : decode cX7_isLeast 13 = .ok (.i2l, 1) := by decide +kernel
theorem dX7_isLeast_14 : decode cX7_isLeast 14 = .ok (.lstore 6, 2) := by decide +kernel
theorem dX7_isLeast_16 : decode cX7_isLeast 16 = .ok (.iload_n 3, 1) := by decide +kernel
theorem dX7_isLeast_17 : decode cX7_isLeast 17 = .ok (.iconst 1, 1) := by decide +kernel
theorem dX7_isLeast_18 : decode cX7_isLeast 18 = .ok (.iand, 1) := by decide +kernel
theorem dX7_isLeast_19 : decode cX7_isLeast 19 = .ok (.ifCond .le 13, 3) := by decide +kernel
theorem dX7_isLeast_22 : decode cX7_isLeast 22 = .ok (.iload_n 0, 1) := by decide +kernel
theorem dX7_isLeast_23 : decode cX7_isLeast 23 = .ok (.lload 4, 2) := by decide +kernel
theorem dX7_isLeast_25 : decode cX7_isLeast 25 = .ok (.iconst 0, 1) := by decide +kernel
theorem dX7_isLeast_26 : decode cX7_isLeast 26 = .ok (.invokestatic 86, 3) := by decide +kernel
theorem dX7_isLeast_29 : decode cX7_isLeast 29 = .ok (.goto 5, 3) := by decide +kernel
theorem dX7_isLeast_32 : decode cX7_isLeast 32 = .ok (.lload 4, 2) := by decide +kernel
theorem dX7_isLeast_34 : decode cX7_isLeast 34 = .ok (.lstore 4, 2) := by decide +kernel
theorem dX7_isLeast_36 : decode cX7_isLeast 36 = .ok (.iload_n 3, 1) := by decide +kernel
theorem dX7_isLeast_37 : decode cX7_isLeast 37 = .ok (.iconst 2, 1) := by decide +kernel
theorem dX7_isLeast_38 : decode cX7_isLeast 38 = .ok (.iand, 1) := by decide +kernel
theorem dX7_isLeast_39 : decode cX7_isLeast 39 = .ok (.ifCond .le 13, 3) := by decide +kernel
theorem dX7_isLeast_42 : decode cX7_isLeast 42 = .ok (.iload_n 0, 1) := by decide +kernel
theorem dX7_isLeast_43 : decode cX7_isLeast 43 = .ok (.lload 6, 2) := by decide +kernel
theorem dX7_isLeast_45 : decode cX7_isLeast 45 = .ok (.iconst 0, 1) := by decide +kernel
theorem dX7_isLeast_46 : decode cX7_isLeast 46 = .ok (.invokestatic 86, 3) := by decide +kernel
theorem dX7_isLeast_49 : decode cX7_isLeast 49 = .ok (.goto 5, 3) := by decide +kernel
theorem dX7_isLeast_52 : decode cX7_isLeast 52 = .ok (.lload 6, 2) := by decide +kernel
theorem dX7_isLeast_54 : decode cX7_isLeast 54 = .ok (.lstore 6, 2) := by decide +kernel
theorem dX7_isLeast_56 : decode cX7_isLeast 56 = .ok (.iload_n 3, 1) := by decide +kernel
theorem dX7_isLeast_57 : decode cX7_isLeast 57 = .ok (.iconst 4, 1) := by decide +kernel
theorem dX7_isLeast_58 : decode cX7_isLeast 58 = .ok (.iand, 1) := by decide +kernel
theorem dX7_isLeast_59 : decode cX7_isLeast 59 = .ok (.ifCond .le 13, 3) := by decide +kernel
theorem dX7_isLeast_62 : decode cX7_isLeast 62 = .ok (.iload_n 0, 1) := by decide +kernel
theorem dX7_isLeast_63 : decode cX7_isLeast 63 = .ok (.lload 4, 2) := by decide +kernel
theorem dX7_isLeast_65 : decode cX7_isLeast 65 = .ok (.iconst 1, 1) := by decide +kernel
theorem dX7_isLeast_66 : decode cX7_isLeast 66 = .ok (.invokestatic 86, 3) := by decide +kernel
theorem dX7_isLeast_69 : decode cX7_isLeast 69 = .ok (.goto 5, 3) := by decide +kernel
theorem dX7_isLeast_72 : decode cX7_isLeast 72 = .ok (.lload 4, 2) := by decide +kernel
theorem dX7_isLeast_74 : decode cX7_isLeast 74 = .ok (.lstore 4, 2) := by decide +kernel
theorem dX7_isLeast_76 : decode cX7_isLeast 76 = .ok (.iload_n 3, 1) := by decide +kernel
theorem dX7_isLeast_77 : decode cX7_isLeast 77 = .ok (.bipush 8, 2) := by decide +kernel
theorem dX7_isLeast_79 : decode cX7_isLeast 79 = .ok (.iand, 1) := by decide +kernel
theorem dX7_isLeast_80 : decode cX7_isLeast 80 = .ok (.ifCond .le 13, 3) := by decide +kernel
theorem dX7_isLeast_83 : decode cX7_isLeast 83 = .ok (.iload_n 0, 1) := by decide +kernel
theorem dX7_isLeast_84 : decode cX7_isLeast 84 = .ok (.lload 6, 2) := by decide +kernel
theorem dX7_isLeast_86 : decode cX7_isLeast 86 = .ok (.iconst 1, 1) := by decide +kernel
theorem dX7_isLeast_87 : decode cX7_isLeast 87 = .ok (.invokestatic 86, 3) := by decide +kernel
theorem dX7_isLeast_90 : decode cX7_isLeast 90 = .ok (.goto 5, 3) := by decide +kernel
theorem dX7_isLeast_93 : decode cX7_isLeast 93 = .ok (.lload 6, 2) := by decide +kernel
theorem dX7_isLeast_95 : decode cX7_isLeast 95 = .ok (.lstore 6, 2) := by decide +kernel
theorem dX7_isLeast_97 : decode cX7_isLeast 97 = .ok (.iload_n 3, 1) := by decide +kernel
theorem dX7_isLeast_98 : decode cX7_isLeast 98 = .ok (.bipush 16, 2) := by decide +kernel
theorem dX7_isLeast_100 : decode cX7_isLeast 100 = .ok (.iand, 1) := by decide +kernel
theorem dX7_isLeast_101 : decode cX7_isLeast 101 = .ok (.ifCond .le 13, 3) := by decide +kernel
theorem dX7_isLeast_104 : decode cX7_isLeast 104 = .ok (.iload_n 0, 1) := by decide +kernel
theorem dX7_isLeast_105 : decode cX7_isLeast 105 = .ok (.lload 4, 2) := by decide +kernel
theorem dX7_isLeast_107 : decode cX7_isLeast 107 = .ok (.iconst 2, 1) := by decide +kernel
theorem dX7_isLeast_108 : decode cX7_isLeast 108 = .ok (.invokestatic 86, 3) := by decide +kernel
theorem dX7_isLeast_111 : decode cX7_isLeast 111 = .ok (.goto 5, 3) := by decide +kernel
theorem dX7_isLeast_114 : decode cX7_isLeast 114 = .ok (.lload 4, 2) := by decide +kernel
theorem dX7_isLeast_116 : decode cX7_isLeast 116 = .ok (.lstore 4, 2) := by decide +kernel
theorem dX7_isLeast_118 : decode cX7_isLeast 118 = .ok (.iload_n 3, 1) := by decide +kernel
theorem dX7_isLeast_119 : decode cX7_isLeast 119 = .ok (.bipush 16, 2) := by decide +kernel
theorem dX7_isLeast_121 : decode cX7_isLeast 121 = .ok (.iand, 1) := by decide +kernel
theorem dX7_isLeast_122 : decode cX7_isLeast 122 = .ok (.ifCond .le 13, 3) := by decide +kernel
theorem dX7_isLeast_125 : decode cX7_isLeast 125 = .ok (.iload_n 0, 1) := by decide +kernel
theorem dX7_isLeast_126 : decode cX7_isLeast 126 = .ok (.lload 6, 2) := by decide +kernel
theorem dX7_isLeast_128 : decode cX7_isLeast 128 = .ok (.iconst 2, 1) := by decide +kernel
theorem dX7_isLeast_129 : decode cX7_isLeast 129 = .ok (.invokestatic 86, 3) := by decide +kernel
theorem dX7_isLeast_132 : decode cX7_isLeast 132 = .ok (.goto 5, 3) := by decide +kernel
theorem dX7_isLeast_135 : decode cX7_isLeast 135 = .ok (.lload 6, 2) := by decide +kernel
theorem dX7_isLeast_137 : decode cX7_isLeast 137 = .ok (.lstore 6, 2) := by decide +kernel
theorem dX7_isLeast_139 : decode cX7_isLeast 139 = .ok (.iload_n 3, 1) := by decide +kernel
theorem dX7_isLeast_140 : decode cX7_isLeast 140 = .ok (.bipush 32, 2) := by decide +kernel
theorem dX7_isLeast_142 : decode cX7_isLeast 142 = .ok (.iand, 1) := by decide +kernel
theorem dX7_isLeast_143 : decode cX7_isLeast 143 = .ok (.ifCond .le 8, 3) := by decide +kernel
theorem dX7_isLeast_146 : decode cX7_isLeast 146 = .ok (.lload 6, 2) := by decide +kernel
theorem dX7_isLeast_148 : decode cX7_isLeast 148 = .ok (.goto 5, 3) := by decide +kernel
theorem dX7_isLeast_151 : decode cX7_isLeast 151 = .ok (.lload 4, 2) := by decide +kernel
theorem dX7_isLeast_153 : decode cX7_isLeast 153 = .ok (.lstore 8, 2) := by decide +kernel
theorem dX7_isLeast_155 : decode cX7_isLeast 155 = .ok (.iload_n 3, 1) := by decide +kernel
theorem dX7_isLeast_156 : decode cX7_isLeast 156 = .ok (.bipush 32, 2) := by decide +kernel
theorem dX7_isLeast_158 : decode cX7_isLeast 158 = .ok (.iand, 1) := by decide +kernel
theorem dX7_isLeast_159 : decode cX7_isLeast 159 = .ok (.ifCond .le 8, 3) := by decide +kernel
theorem dX7_isLeast_162 : decode cX7_isLeast 162 = .ok (.lload 4, 2) := by decide +kernel
theorem dX7_isLeast_164 : decode cX7_isLeast 164 = .ok (.goto 5, 3) := by decide +kernel
theorem dX7_isLeast_167 : decode cX7_isLeast 167 = .ok (.lload 6, 2) := by decide +kernel
theorem dX7_isLeast_169 : decode cX7_isLeast 169 = .ok (.lstore 10, 2) := by decide +kernel
theorem dX7_isLeast_171 : decode cX7_isLeast 171 = .ok (.lload 8, 2) := by decide +kernel
theorem dX7_isLeast_173 : decode cX7_isLeast 173 = .ok (.iload_n 1, 1) := by decide +kernel
theorem dX7_isLeast_174 : decode cX7_isLeast 174 = .ok (.i2l, 1) := by decide +kernel
theorem dX7_isLeast_175 : decode cX7_isLeast 175 = .ok (.lcmp, 1) := by decide +kernel
theorem dX7_isLeast_176 : decode cX7_isLeast 176 = .ok (.ifCond .lt 19, 3) := by decide +kernel
theorem dX7_isLeast_179 : decode cX7_isLeast 179 = .ok (.lload 8, 2) := by decide +kernel
theorem dX7_isLeast_181 : decode cX7_isLeast 181 = .ok (.iload_n 1, 1) := by decide +kernel
theorem dX7_isLeast_182 : decode cX7_isLeast 182 = .ok (.i2l, 1) := by decide +kernel
theorem dX7_isLeast_183 : decode cX7_isLeast 183 = .ok (.lcmp, 1) := by decide +kernel
theorem dX7_isLeast_184 : decode cX7_isLeast 184 = .ok (.ifCond .ne 13, 3) := by decide +kernel
theorem dX7_isLeast_187 : decode cX7_isLeast 187 = .ok (.lload 10, 2) := by decide +kernel
theorem dX7_isLeast_189 : decode cX7_isLeast 189 = .ok (.iload_n 2, 1) := by decide +kernel
theorem dX7_isLeast_190 : decode cX7_isLeast 190 = .ok (.i2l, 1) := by decide +kernel
theorem dX7_isLeast_191 : decode cX7_isLeast 191 = .ok (.lcmp, 1) := by decide +kernel
theorem dX7_isLeast_192 : decode cX7_isLeast 192 = .ok (.ifCond .ge 5, 3) := by decide +kernel
theorem dX7_isLeast_195 : decode cX7_isLeast 195 = .ok (.iconst 0, 1) := by decide +kernel
theorem dX7_isLeast_196 : decode cX7_isLeast 196 = .ok (.ireturn, 1) := by decide +kernel
theorem dX7_isLeast_197 : decode cX7_isLeast 197 = .ok (.iinc 3 1, 3) := by decide +kernel
theorem dX7_isLeast_200 : decode cX7_isLeast 200 = .ok (.goto (-198), 3) := by decide +kernel
theorem dX7_isLeast_203 : decode cX7_isLeast 203 = .ok (.iconst 1, 1) := by decide +kernel
theorem dX7_isLeast_204 : decode cX7_isLeast 204 = .ok (.ireturn, 1) := by decide +kernel
set_option maxRecDepth 20000 in
theorem ggX7_pairs_X7_in : GoodIn wsX7_pairs wsX7_in := goodIn_r _ [9] (by decide +kernel) (by decide +kernel)
set_option maxRecDepth 20000 in
theorem gX7_pairs_X7_in : GoodIn wsX7_pairs (va_wsS RX7 52 yX7_in wsX7_in) := goodIn_app (goodIn_of _ (by decide +kernel)) ggX7_pairs_X7_in
set_option maxRecDepth 20000 in
theorem ggX7_pairs_X7_know : GoodIn wsX7_pairs wsX7_know := goodIn_r _ [13, 14, 15, 3, 4, 5, 16, 17, 18, 8, 19, 20, 21, 22, 23, 24, 25, 26, 27, 28, 29, 30, 31, 32, 33, 34, 35, 36, 37, 38, 39, 40, 41, 42, 43, 44] (by decide +kernel) (by decide +kernel)
set_option maxRecDepth 20000 in
theorem gX7_pairs_X7_know : GoodIn wsX7_pairs (wsV RX7 152 RX7 yX7_know wsX7_know) := goodIn_app (goodIn_of _ (by decide +kernel)) ggX7_pairs_X7_know
theorem dX7_pairs_0 : decode cX7_pairs 0 = .ok (.iload_n 1, 1) := by decide +kernel
theorem dX7_pairs_1 : decode cX7_pairs 1 = .ok (.i2l, 1) := by decide +kernel
theorem dX7_pairs_2 : decode cX7_pairs 2 = .ok (.lconst 1, 1) := by decide +kernel
theorem dX7_pairs_3 : decode cX7_pairs 3 = .ok (.ldc2_w 150, 3) := by decide +kernel
theorem dX7_pairs_6 : decode cX7_pairs 6 = .ok (.invokestatic 52, 3) := by decide +kernel
theorem dX7_pairs_9 : decode cX7_pairs 9 = .ok (.ifCond .eq 15, 3) := by decide +kernel
theorem dX7_pairs_12 : decode cX7_pairs 12 = .ok (.iload_n 2, 1) := by decide +kernel
theorem dX7_pairs_13 : decode cX7_pairs 13 = .ok (.i2l, 1) := by decide +kernel
theorem dX7_pairs_14 : decode cX7_pairs 14 = .ok (.lconst 0, 1) := by decide +kernel
theorem dX7_pairs_15 : decode cX7_pairs 15 = .ok (.ldc2_w 62, 3) := by decide +kernel
theorem dX7_pairs_18 : decode cX7_pairs 18 = .ok (.invokestatic 52, 3) := by decide +kernel
theorem dX7_pairs_21 : decode cX7_pairs 21 = .ok (.ifCond .ne 5, 3) := by decide +kernel
theorem dX7_pairs_24 : decode cX7_pairs 24 = .ok (.iconst (-1), 1) := by decide +kernel
theorem dX7_pairs_25 : decode cX7_pairs 25 = .ok (.ireturn, 1) := by decide +kernel
theorem dX7_pairs_26 : decode cX7_pairs 26 = .ok (.aload_n 0, 1) := by decide +kernel
theorem dX7_pairs_27 : decode cX7_pairs 27 = .ok (.iload_n 1, 1) := by decide +kernel
theorem dX7_pairs_28 : decode cX7_pairs 28 = .ok (.invokevirtual 152, 3) := by decide +kernel
theorem dX7_pairs_31 : decode cX7_pairs 31 = .ok (.iload_n 2, 1) := by decide +kernel
theorem dX7_pairs_32 : decode cX7_pairs 32 = .ok (.iconst 2, 1) := by decide +kernel
theorem dX7_pairs_33 : decode cX7_pairs 33 = .ok (.if_icmp .ge 19, 3) := by decide +kernel
theorem dX7_pairs_36 : decode cX7_pairs 36 = .ok (.iload_n 2, 1) := by decide +kernel
theorem dX7_pairs_37 : decode cX7_pairs 37 = .ok (.ifCond .ne 10, 3) := by decide +kernel
theorem dX7_pairs_40 : decode cX7_pairs 40 = .ok (.aload_n 0, 1) := by decide +kernel
theorem dX7_pairs_41 : decode cX7_pairs 41 = .ok (.getfield 140, 3) := by decide +kernel
theorem dX7_pairs_44 : decode cX7_pairs 44 = .ok (.goto 7, 3) := by decide +kernel
theorem dX7_pairs_47 : decode cX7_pairs 47 = .ok (.aload_n 0, 1) := by decide +kernel
theorem dX7_pairs_48 : decode cX7_pairs 48 = .ok (.getfield 143, 3) := by decide +kernel
theorem dX7_pairs_51 : decode cX7_pairs 51 = .ok (.ireturn, 1) := by decide +kernel
theorem dX7_pairs_52 : decode cX7_pairs 52 = .ok (.aload_n 0, 1) := by decide +kernel
theorem dX7_pairs_53 : decode cX7_pairs 53 = .ok (.getfield 140, 3) := by decide +kernel
theorem dX7_pairs_56 : decode cX7_pairs 56 = .ok (.ifCond .ne 8, 3) := by decide +kernel
theorem dX7_pairs_59 : decode cX7_pairs 59 = .ok (.bipush (-4), 2) := by decide +kernel
theorem dX7_pairs_61 : decode cX7_pairs 61 = .ok (.goto 31, 3) := by decide +kernel
theorem dX7_pairs_64 : decode cX7_pairs 64 = .ok (.iload_n 2, 1) := by decide +kernel
theorem dX7_pairs_65 : decode cX7_pairs 65 = .ok (.iconst 2, 1) := by decide +kernel
theorem dX7_pairs_66 : decode cX7_pairs 66 = .ok (.if_icmp .ne 16, 3) := by decide +kernel
theorem dX7_pairs_69 : decode cX7_pairs 69 = .ok (.aload_n 0, 1) := by decide +kernel
theorem dX7_pairs_70 : decode cX7_pairs 70 = .ok (.getfield 33, 3) := by decide +kernel
theorem dX7_pairs_73 : decode cX7_pairs 73 = .ok (.iconst 0, 1) := by decide +kernel
theorem dX7_pairs_74 : decode cX7_pairs 74 = .ok (.iaload, 1) := by decide +kernel
theorem dX7_pairs_75 : decode cX7_pairs 75 = .ok (.sipush 1000, 3) := by decide +kernel
theorem dX7_pairs_78 : decode cX7_pairs 78 = .ok (.idiv, 1) := by decide +kernel
theorem dX7_pairs_79 : decode cX7_pairs 79 = .ok (.goto 13, 3) := by decide +kernel
theorem dX7_pairs_82 : decode cX7_pairs 82 = .ok (.aload_n 0, 1) := by decide +kernel
theorem dX7_pairs_83 : decode cX7_pairs 83 = .ok (.getfield 33, 3) := by decide +kernel
theorem dX7_pairs_86 : decode cX7_pairs 86 = .ok (.iconst 0, 1) := by decide +kernel
theorem dX7_pairs_87 : decode cX7_pairs 87 = .ok (.iaload, 1) := by decide +kernel
theorem dX7_pairs_88 : decode cX7_pairs 88 = .ok (.sipush 1000, 3) := by decide +kernel
theorem dX7_pairs_91 : decode cX7_pairs 91 = .ok (.irem, 1) := by decide +kernel
theorem dX7_pairs_92 : decode cX7_pairs 92 = .ok (.ireturn, 1) := by decide +kernel
set_option maxRecDepth 20000 in
theorem ggX7_pair_X7_in : GoodIn wsX7_pair wsX7_in := goodIn_r _ [7] (by decide +kernel) (by decide +kernel)
set_option maxRecDepth 20000 in
theorem gX7_pair_X7_in : GoodIn wsX7_pair (va_wsS RX7 52 yX7_in wsX7_in) := goodIn_app (goodIn_of _ (by decide +kernel)) ggX7_pair_X7_in
set_option maxRecDepth 20000 in
theorem ggX7_pair_X7_know : GoodIn wsX7_pair wsX7_know := goodIn_r _ [11, 12, 13, 14, 2, 15, 3, 16, 17, 6, 18, 19, 20, 21, 22, 23, 24, 25, 26, 27, 28, 29, 30, 31, 32, 33, 34, 35, 36, 37, 38, 39, 40, 41, 42, 43] (by decide +kernel) (by decide +kernel)
set_option maxRecDepth 20000 in
theorem gX7_pair_X7_know : GoodIn wsX7_pair (wsV RX7 152 RX7 yX7_know wsX7_know) := goodIn_app (goodIn_of _ (by decide +kernel)) ggX7_pair_X7_know
theorem dX7_pair_0 : decode cX7_pair 0 = .ok (.iload_n 1, 1) := by decide +kernel
theorem dX7_pair_1 : decode cX7_pair 1 = .ok (.i2l, 1) := by decide +kernel
theorem dX7_pair_2 : decode cX7_pair 2 = .ok (.lconst 1, 1) := by decide +kernel
theorem dX7_pair_3 : decode cX7_pair 3 = .ok (.ldc2_w 150, 3) := by decide +kernel
theorem dX7_pair_6 : decode cX7_pair 6 = .ok (.invokestatic 52, 3) := by decide +kernel
theorem dX7_pair_9 : decode cX7_pair 9 = .ok (.ifCond .eq 7, 3) := by decide +kernel
theorem dX7_pair_12 : decode cX7_pair 12 = .ok (.iload_n 2, 1) := by decide +kernel
theorem dX7_pair_13 : decode cX7_pair 13 = .ok (.ifCond .ge 5, 3) := by decide +kernel
theorem dX7_pair_16 : decode cX7_pair 16 = .ok (.iconst (-1), 1) := by decide +kernel
theorem dX7_pair_17 : decode cX7_pair 17 = .ok (.ireturn, 1) := by decide +kernel
theorem dX7_pair_18 : decode cX7_pair 18 = .ok (.aload_n 0, 1) := by decide +kernel
theorem dX7_pair_19 : decode cX7_pair 19 = .ok (.iload_n 1, 1) := by decide +kernel
theorem dX7_pair_20 : decode cX7_pair 20 = .ok (.invokevirtual 152, 3) := by decide +kernel
theorem dX7_pair_23 : decode cX7_pair 23 = .ok (.iload_n 2, 1) := by decide +kernel
theorem dX7_pair_24 : decode cX7_pair 24 = .ok (.aload_n 0, 1) := by decide +kernel
theorem dX7_pair_25 : decode cX7_pair 25 = .ok (.getfield 143, 3) := by decide +kernel
theorem dX7_pair_28 : decode cX7_pair 28 = .ok (.if_icmp .ge 12, 3) := by decide +kernel
theorem dX7_pair_31 : decode cX7_pair 31 = .ok (.aload_n 0, 1) := by decide +kernel
theorem dX7_pair_32 : decode cX7_pair 32 = .ok (.getfield 36, 3) := by decide +kernel
theorem dX7_pair_35 : decode cX7_pair 35 = .ok (.iload_n 2, 1) := by decide +kernel
theorem dX7_pair_36 : decode cX7_pair 36 = .ok (.iaload, 1) := by decide +kernel
theorem dX7_pair_37 : decode cX7_pair 37 = .ok (.goto 5, 3) := by decide +kernel
theorem dX7_pair_40 : decode cX7_pair 40 = .ok (.bipush (-4), 2) := by decide +kernel
theorem dX7_pair_42 : decode cX7_pair 42 = .ok (.ireturn, 1) := by decide +kernel
set_option maxRecDepth 20000 in
theorem ggX7_search_X7_peakOf : GoodIn wsX7_search wsX7_peakOf := goodIn_r _ [7, 8, 9, 6, 10, 11, 12, 13] (by decide +kernel) (by decide +kernel)
set_option maxRecDepth 20000 in
theorem gX7_search_X7_peakOf : GoodIn wsX7_search (va_wsS RX7 90 yX7_peakOf wsX7_peakOf) := goodIn_app (goodIn_of _ (by decide +kernel)) ggX7_search_X7_peakOf
set_option maxRecDepth 20000 in
theorem ggX7_search_X7_energyOf : GoodIn wsX7_search wsX7_energyOf := goodIn_r _ [16, 8, 9, 6, 10, 11, 12, 13] (by decide +kernel) (by decide +kernel)
set_option maxRecDepth 20000 in
theorem gX7_search_X7_energyOf : GoodIn wsX7_search (va_wsS RX7 93 yX7_energyOf wsX7_energyOf) := goodIn_app (goodIn_of _ (by decide +kernel)) ggX7_search_X7_energyOf
set_option maxRecDepth 20000 in
theorem ggX7_search_X7_turns : GoodIn wsX7_search wsX7_turns := goodIn_r _ [20, 21, 22, 23, 24, 6, 25, 11, 12, 13, 26, 27, 28, 29, 30, 31, 32, 33, 34, 35, 36, 37, 38, 39, 40, 41] (by decide +kernel) (by decide +kernel)
set_option maxRecDepth 20000 in
theorem gX7_search_X7_turns : GoodIn wsX7_search (wsV RX7 96 RX7 yX7_turns wsX7_turns) := goodIn_app (goodIn_of _ (by decide +kernel)) ggX7_search_X7_turns
theorem dX7_search_0 : decode cX7_search 0 = .ok (.iconst 4, 1) := by decide +kernel
theorem dX7_search_1 : decode cX7_search 1 = .ok (.iconst 2, 1) := by decide +kernel
theorem dX7_search_2 : decode cX7_search 2 = .ok (.iload_n 1, 1) := by decide +kernel
theorem dX7_search_3 : decode cX7_search 3 = .ok (.imul, 1) := by decide +kernel
theorem dX7_search_4 : decode cX7_search 4 = .ok (.iload_n 2, 1) := by decide +kernel
theorem dX7_search_5 : decode cX7_search 5 = .ok (.iadd, 1) := by decide +kernel
theorem dX7_search_6 : decode cX7_search 6 = .ok (.imul, 1) := by decide +kernel
theorem dX7_search_7 : decode cX7_search 7 = .ok (.istore_n 3, 1) := by decide +kernel
theorem dX7_search_8 : decode cX7_search 8 = .ok (.aload_n 0, 1) := by decide +kernel
theorem dX7_search_9 : decode cX7_search 9 = .ok (.getfield 42, 3) := by decide +kernel
theorem dX7_search_12 : decode cX7_search 12 = .ok (.iconst 2, 1) := by decide +kernel
theorem dX7_search_13 : decode cX7_search 13 = .ok (.iload_n 1, 1) := by decide +kernel
theorem dX7_search_14 : decode cX7_search 14 = .ok (.imul, 1) := by decide +kernel
theorem dX7_search_15 : decode cX7_search 15 = .ok (.iload_n 2, 1) := by decide +kernel
theorem dX7_search_16 : decode cX7_search 16 = .ok (.iadd, 1) := by decide +kernel
theorem dX7_search_17 : decode cX7_search 17 = .ok (.iconst 1, 1) := by decide +kernel
theorem dX7_search_18 : decode cX7_search 18 = .ok (.bastore, 1) := by decide +kernel
theorem dX7_search_19 : decode cX7_search 19 = .ok (.ldc 156, 2) := by decide +kernel
theorem dX7_search_21 : decode cX7_search 21 = .ok (.istore 4, 2) := by decide +kernel
theorem dX7_search_23 : decode cX7_search 23 = .ok (.iconst 0, 1) := by decide +kernel
theorem dX7_search_24 : decode cX7_search 24 = .ok (.istore 5, 2) := by decide +kernel
theorem dX7_search_26 : decode cX7_search 26 = .ok (.iload 5, 2) := by decide +kernel
theorem dX7_search_28 : decode cX7_search 28 = .ok (.iconst 1, 1) := by decide +kernel
theorem dX7_search_29 : decode cX7_search 29 = .ok (.iload_n 1, 1) := by decide +kernel
theorem dX7_search_30 : decode cX7_search 30 = .ok (.ishl, 1) := by decide +kernel
theorem dX7_search_31 : decode cX7_search 31 = .ok (.if_icmp .ge 129, 3) := by decide +kernel
theorem dX7_search_34 : decode cX7_search 34 = .ok (.iload_n 2, 1) := by decide +kernel
theorem dX7_search_35 : decode cX7_search 35 = .ok (.ifCond .ne 13, 3) := by decide +kernel
theorem dX7_search_38 : decode cX7_search 38 = .ok (.iload_n 1, 1) := by decide +kernel
theorem dX7_search_39 : decode cX7_search 39 = .ok (.iload 5, 2) := by decide +kernel
theorem dX7_search_41 : decode cX7_search 41 = .ok (.i2l, 1) := by decide +kernel
theorem dX7_search_42 : decode cX7_search 42 = .ok (.invokestatic 90, 3) := by decide +kernel
theorem dX7_search_45 : decode cX7_search 45 = .ok (.goto 10, 3) := by decide +kernel
theorem dX7_search_48 : decode cX7_search 48 = .ok (.iload_n 1, 1) := by decide +kernel
theorem dX7_search_49 : decode cX7_search 49 = .ok (.iload 5, 2) := by decide +kernel
theorem dX7_search_51 : decode cX7_search 51 = .ok (.i2l, 1) := by decide +kernel
theorem dX7_search_52 : decode cX7_search 52 = .ok (.invokestatic 93, 3) := by decide +kernel
theorem dX7_search_55 : decode cX7_search 55 = .ok (.istore 6, 2) := by decide +kernel
theorem dX7_search_57 : decode cX7_search 57 = .ok (.iload 6, 2) := by decide +kernel
theorem dX7_search_59 : decode cX7_search 59 = .ok (.iload 4, 2) := by decide +kernel
theorem dX7_search_61 : decode cX7_search 61 = .ok (.if_icmp .ge 43, 3) := by decide +kernel
theorem dX7_search_64 : decode cX7_search 64 = .ok (.iload 6, 2) := by decide +kernel
theorem dX7_search_66 : decode cX7_search 66 = .ok (.istore 4, 2) := by decide +kernel
theorem dX7_search_68 : decode cX7_search 68 = .ok (.aload_n 0, 1) := by decide +kernel
theorem dX7_search_69 : decode cX7_search 69 = .ok (.getfield 46, 3) := by decide +kernel
theorem dX7_search_72 : decode cX7_search 72 = .ok (.iload_n 3, 1) := by decide +kernel
theorem dX7_search_73 : decode cX7_search 73 = .ok (.iload 6, 2) := by decide +kernel
theorem dX7_search_75 : decode cX7_search 75 = .ok (.iastore, 1) := by decide +kernel
theorem dX7_search_76 : decode cX7_search 76 = .ok (.aload_n 0, 1) := by decide +kernel
theorem dX7_search_77 : decode cX7_search 77 = .ok (.getfield 46, 3) := by decide +kernel
theorem dX7_search_80 : decode cX7_search 80 = .ok (.iload_n 3, 1) := by decide +kernel
theorem dX7_search_81 : decode cX7_search 81 = .ok (.iconst 1, 1) := by decide +kernel
theorem dX7_search_82 : decode cX7_search 82 = .ok (.iadd, 1) := by decide +kernel
theorem dX7_search_83 : decode cX7_search 83 = .ok (.iload 5, 2) := by decide +kernel
theorem dX7_search_85 : decode cX7_search 85 = .ok (.iastore, 1) := by decide +kernel
theorem dX7_search_86 : decode cX7_search 86 = .ok (.aload_n 0, 1) := by decide +kernel
theorem dX7_search_87 : decode cX7_search 87 = .ok (.getfield 46, 3) := by decide +kernel
theorem dX7_search_90 : decode cX7_search 90 = .ok (.iload_n 3, 1) := by decide +kernel
theorem dX7_search_91 : decode cX7_search 91 = .ok (.iconst 2, 1) := by decide +kernel
theorem dX7_search_92 : decode cX7_search 92 = .ok (.iadd, 1) := by decide +kernel
theorem dX7_search_93 : decode cX7_search 93 = .ok (.iconst 0, 1) := by decide +kernel
theorem dX7_search_94 : decode cX7_search 94 = .ok (.iastore, 1) := by decide +kernel
theorem dX7_search_95 : decode cX7_search 95 = .ok (.aload_n 0, 1) := by decide +kernel
theorem dX7_search_96 : decode cX7_search 96 = .ok (.getfield 46, 3) := by decide +kernel
theorem dX7_search_99 : decode cX7_search 99 = .ok (.iload_n 3, 1) := by decide +kernel
theorem dX7_search_100 : decode cX7_search 100 = .ok (.iconst 3, 1) := by decide +kernel
theorem dX7_search_101 : decode cX7_search 101 = .ok (.iadd, 1) := by decide +kernel
theorem dX7_search_102 : decode cX7_search 102 = .ok (.iconst 0, 1) := by decide +kernel
theorem dX7_search_103 : decode cX7_search 103 = .ok (.iastore, 1) := by decide +kernel
theorem dX7_search_104 : decode cX7_search 104 = .ok (.iload 6, 2) := by decide +kernel
theorem dX7_search_106 : decode cX7_search 106 = .ok (.iload 4, 2) := by decide +kernel
theorem dX7_search_108 : decode cX7_search 108 = .ok (.if_icmp .ne 46, 3) := by decide +kernel
theorem dX7_search_111 : decode cX7_search 111 = .ok (.aload_n 0, 1) := by decide +kernel
theorem dX7_search_112 : decode cX7_search 112 = .ok (.getfield 46, 3) := by decide +kernel
theorem dX7_search_115 : decode cX7_search 115 = .ok (.iload_n 3, 1) := by decide +kernel
theorem dX7_search_116 : decode cX7_search 116 = .ok (.iconst 2, 1) := by decide +kernel
theorem dX7_search_117 : decode cX7_search 117 = .ok (.iadd, 1) := by decide +kernel
theorem dX7_search_118 : decode cX7_search 118 = .ok (.dup2, 1) := by decide +kernel
theorem dX7_search_119 : decode cX7_search 119 = .ok (.iaload, 1) := by decide +kernel
theorem dX7_search_120 : decode cX7_search 120 = .ok (.iconst 1, 1) := by decide +kernel
theorem dX7_search_121 : decode cX7_search 121 = .ok (.iadd, 1) := by decide +kernel
theorem dX7_search_122 : decode cX7_search 122 = .ok (.iastore, 1) := by decide +kernel
theorem dX7_search_123 : decode cX7_search 123 = .ok (.aload_n 0, 1) := by decide +kernel
theorem dX7_search_124 : decode cX7_search 124 = .ok (.getfield 46, 3) := by decide +kernel
theorem dX7_search_127 : decode cX7_search 127 = .ok (.iload_n 3, 1) := by decide +kernel
theorem dX7_search_128 : decode cX7_search 128 = .ok (.iconst 3, 1) := by decide +kernel
theorem dX7_search_129 : decode cX7_search 129 = .ok (.iadd, 1) := by decide +kernel
theorem dX7_search_130 : decode cX7_search 130 = .ok (.dup2, 1) := by decide +kernel
theorem dX7_search_131 : decode cX7_search 131 = .ok (.iaload, 1) := by decide +kernel
theorem dX7_search_132 : decode cX7_search 132 = .ok (.aload_n 0, 1) := by decide +kernel
theorem dX7_search_133 : decode cX7_search 133 = .ok (.iload_n 1, 1) := by decide +kernel
theorem dX7_search_134 : decode cX7_search 134 = .ok (.iload 5, 2) := by decide +kernel
theorem dX7_search_136 : decode cX7_search 136 = .ok (.i2l, 1) := by decide +kernel
theorem dX7_search_137 : decode cX7_search 137 = .ok (.invokevirtual 96, 3) := by decide +kernel
theorem dX7_search_140 : decode cX7_search 140 = .ok (.iload 5, 2) := by decide +kernel
theorem dX7_search_142 : decode cX7_search 142 = .ok (.i2l, 1) := by decide +kernel
theorem dX7_search_143 : decode cX7_search 143 = .ok (.lcmp, 1) := by decide +kernel
theorem dX7_search_144 : decode cX7_search 144 = .ok (.ifCond .ne 7, 3) := by decide +kernel
theorem dX7_search_147 : decode cX7_search 147 = .ok (.iconst 1, 1) := by decide +kernel
theorem dX7_search_148 : decode cX7_search 148 = .ok (.goto 4, 3) := by decide +kernel
theorem dX7_search_151 : decode cX7_search 151 = .ok (.iconst 0, 1) := by decide +kernel
theorem dX7_search_152 : decode cX7_search 152 = .ok (.iadd, 1) := by decide +kernel
theorem dX7_search_153 : decode cX7_search 153 = .ok (.iastore, 1) := by decide +kernel
theorem dX7_search_154 : decode cX7_search 154 = .ok (.iinc 5 1, 3) := by decide +kernel
theorem dX7_search_157 : decode cX7_search 157 = .ok (.goto (-131), 3) := by decide +kernel
theorem dX7_search_160 : decode cX7_search 160 = .ok (.return_, 1) := by decide +kernel
set_option maxRecDepth 20000 in
theorem ggX7_best_X7_in : GoodIn wsX7_best wsX7_in := goodIn_r _ [8] (by decide +kernel) (by decide +kernel)
set_option maxRecDepth 20000 in
theorem gX7_best_X7_in : GoodIn wsX7_best (va_wsS RX7 52 yX7_in wsX7_in) := goodIn_app (goodIn_of _ (by decide +kernel)) ggX7_best_X7_in
set_option maxRecDepth 20000 in
theorem ggX7_best_X7_search : GoodIn wsX7_best wsX7_search := goodIn_r _ [12, 3, 13, 4, 14, 15, 7, 16, 17, 18, 19, 20, 21, 22, 23, 24, 25, 26, 27, 28, 29, 30, 31, 32, 33, 34, 35, 36, 37, 38, 39, 40, 41, 42, 43, 44, 45, 46, 47, 48, 49, 50] (by decide +kernel) (by decide +kernel)
set_option maxRecDepth 20000 in
theorem gX7_best_X7_search : GoodIn wsX7_best (wsV RX7 159 RX7 yX7_search wsX7_search) := goodIn_app (goodIn_of _ (by decide +kernel)) ggX7_best_X7_search
theorem dX7_best_0 : decode cX7_best 0 = .ok (.iload_n 1, 1) := by decide +kernel
theorem dX7_best_1 : decode cX7_best 1 = .ok (.i2l, 1) := by decide +kernel
theorem dX7_best_2 : decode cX7_best 2 = .ok (.lconst 1, 1) := by decide +kernel
theorem dX7_best_3 : decode cX7_best 3 = .ok (.ldc2_w 157, 3) := by decide +kernel
theorem dX7_best_6 : decode cX7_best 6 = .ok (.invokestatic 52, 3) := by decide +kernel
theorem dX7_best_9 : decode cX7_best 9 = .ok (.ifCond .eq 25, 3) := by decide +kernel
theorem dX7_best_12 : decode cX7_best 12 = .ok (.iload_n 2, 1) := by decide +kernel
theorem dX7_best_13 : decode cX7_best 13 = .ok (.i2l, 1) := by decide +kernel
theorem dX7_best_14 : decode cX7_best 14 = .ok (.lconst 0, 1) := by decide +kernel
theorem dX7_best_15 : decode cX7_best 15 = .ok (.lconst 1, 1) := by decide +kernel
theorem dX7_best_16 : decode cX7_best 16 = .ok (.invokestatic 52, 3) := by decide +kernel
theorem dX7_best_19 : decode cX7_best 19 = .ok (.ifCond .eq 15, 3) := by decide +kernel
theorem dX7_best_22 : decode cX7_best 22 = .ok (.iload_n 3, 1) := by decide +kernel
theorem dX7_best_23 : decode cX7_best 23 = .ok (.i2l, 1) := by decide +kernel
theorem dX7_best_24 : decode cX7_best 24 = .ok (.lconst 0, 1) := by decide +kernel
theorem dX7_best_25 : decode cX7_best 25 = .ok (.ldc2_w 62, 3) := by decide +kernel
theorem dX7_best_28 : decode cX7_best 28 = .ok (.invokestatic 52, 3) := by decide +kernel
theorem dX7_best_31 : decode cX7_best 31 = .ok (.ifCond .ne 5, 3) := by decide +kernel
theorem dX7_best_34 : decode cX7_best 34 = .ok (.iconst (-1), 1) := by decide +kernel
theorem dX7_best_35 : decode cX7_best 35 = .ok (.ireturn, 1) := by decide +kernel
theorem dX7_best_36 : decode cX7_best 36 = .ok (.aload_n 0, 1) := by decide +kernel
theorem dX7_best_37 : decode cX7_best 37 = .ok (.getfield 42, 3) := by decide +kernel
theorem dX7_best_40 : decode cX7_best 40 = .ok (.iconst 2, 1) := by decide +kernel
theorem dX7_best_41 : decode cX7_best 41 = .ok (.iload_n 1, 1) := by decide +kernel
theorem dX7_best_42 : decode cX7_best 42 = .ok (.imul, 1) := by decide +kernel
theorem dX7_best_43 : decode cX7_best 43 = .ok (.iload_n 2, 1) := by decide +kernel
theorem dX7_best_44 : decode cX7_best 44 = .ok (.iadd, 1) := by decide +kernel
theorem dX7_best_45 : decode cX7_best 45 = .ok (.baload, 1) := by decide +kernel
theorem dX7_best_46 : decode cX7_best 46 = .ok (.ifCond .ne 9, 3) := by decide +kernel
theorem dX7_best_49 : decode cX7_best 49 = .ok (.aload_n 0, 1) := by decide +kernel
theorem dX7_best_50 : decode cX7_best 50 = .ok (.iload_n 1, 1) := by decide +kernel
theorem dX7_best_51 : decode cX7_best 51 = .ok (.iload_n 2, 1) := by decide +kernel
theorem dX7_best_52 : decode cX7_best 52 = .ok (.invokevirtual 159, 3) := by decide +kernel
theorem dX7_best_55 : decode cX7_best 55 = .ok (.aload_n 0, 1) := by decide +kernel
theorem dX7_best_56 : decode cX7_best 56 = .ok (.getfield 46, 3) := by decide +kernel
theorem dX7_best_59 : decode cX7_best 59 = .ok (.iconst 4, 1) := by decide +kernel
theorem dX7_best_60 : decode cX7_best 60 = .ok (.iconst 2, 1) := by decide +kernel
theorem dX7_best_61 : decode cX7_best 61 = .ok (.iload_n 1, 1) := by decide +kernel
theorem dX7_best_62 : decode cX7_best 62 = .ok (.imul, 1) := by decide +kernel
theorem dX7_best_63 : decode cX7_best 63 = .ok (.iload_n 2, 1) := by decide +kernel
theorem dX7_best_64 : decode cX7_best 64 = .ok (.iadd, 1) := by decide +kernel
theorem dX7_best_65 : decode cX7_best 65 = .ok (.imul, 1) := by decide +kernel
theorem dX7_best_66 : decode cX7_best 66 = .ok (.iload_n 3, 1) := by decide +kernel
theorem dX7_best_67 : decode cX7_best 67 = .ok (.iadd, 1) := by decide +kernel
theorem dX7_best_68 : decode cX7_best 68 = .ok (.iaload, 1) := by decide +kernel
theorem dX7_best_69 : decode cX7_best 69 = .ok (.ireturn, 1) := by decide +kernel
theorem dX7_count_0 : decode cX7_count 0 = .ok (.iload_n 1, 1) := by decide +kernel
theorem dX7_count_1 : decode cX7_count 1 = .ok (.ifCond .ne 10, 3) := by decide +kernel
theorem dX7_count_4 : decode cX7_count 4 = .ok (.aload_n 0, 1) := by decide +kernel
theorem dX7_count_5 : decode cX7_count 5 = .ok (.getfield 49, 3) := by decide +kernel
theorem dX7_count_8 : decode cX7_count 8 = .ok (.goto 34, 3) := by decide +kernel
theorem dX7_count_11 : decode cX7_count 11 = .ok (.iload_n 1, 1) := by decide +kernel
theorem dX7_count_12 : decode cX7_count 12 = .ok (.iconst 1, 1) := by decide +kernel
theorem dX7_count_13 : decode cX7_count 13 = .ok (.if_icmp .ne 28, 3) := by decide +kernel
theorem dX7_count_16 : decode cX7_count 16 = .ok (.aload_n 0, 1) := by decide +kernel
theorem dX7_count_17 : decode cX7_count 17 = .ok (.getfield 17, 3) := by decide +kernel
theorem dX7_count_20 : decode cX7_count 20 = .ok (.iconst 0, 1) := by decide +kernel
theorem dX7_count_21 : decode cX7_count 21 = .ok (.iaload, 1) := by decide +kernel
theorem dX7_count_22 : decode cX7_count 22 = .ok (.bipush (-4), 2) := by decide +kernel
theorem dX7_count_24 : decode cX7_count 24 = .ok (.if_icmp .ne 8, 3) := by decide +kernel
theorem dX7_count_27 : decode cX7_count 27 = .ok (.bipush (-4), 2) := by decide +kernel
theorem dX7_count_29 : decode cX7_count 29 = .ok (.goto 13, 3) := by decide +kernel
theorem dX7_count_32 : decode cX7_count 32 = .ok (.aload_n 0, 1) := by decide +kernel
theorem dX7_count_33 : decode cX7_count 33 = .ok (.getfield 20, 3) := by decide +kernel
theorem dX7_count_36 : decode cX7_count 36 = .ok (.iconst 0, 1) := by decide +kernel
theorem dX7_count_37 : decode cX7_count 37 = .ok (.iaload, 1) := by decide +kernel
theorem dX7_count_38 : decode cX7_count 38 = .ok (.goto 4, 3) := by decide +kernel
theorem dX7_count_41 : decode cX7_count 41 = .ok (.iconst (-1), 1) := by decide +kernel
theorem dX7_count_42 : decode cX7_count 42 = .ok (.ireturn, 1) := by decide +kernel
end
section
set_option maxRecDepth 20000 in
theorem ggL_law_X6_init : GoodIn wsL_law wsX6_init := goodIn_r _ [9, 10, 11, 12, 13, 14, 15, 16, 17, 18, 19, 20, 21, 22, 23, 24, 665, 666, 667, 668, 669, 670, 671] (by decide +kernel) (by decide +kernel)
set_option maxRecDepth 20000 in
theorem gL_law_X6_init : GoodIn wsL_law (wsX6_init) := ggL_law_X6_init
set_option maxRecDepth 20000 in
theorem ggL_law_X7_init : GoodIn wsL_law wsX7_init := goodIn_r _ [27, 28, 11, 12, 13, 29, 15, 30, 31, 32, 33, 34, 35, 36, 37, 38, 39, 40, 41, 672, 673, 674, 675, 676, 677, 678, 679, 680, 681, 682, 683, 684, 685, 686, 687] (by decide +kernel) (by decide +kernel)
set_option maxRecDepth 20000 in
theorem gL_law_X7_init : GoodIn wsL_law (wsX7_init) := ggL_law_X7_init
set_option maxRecDepth 20000 in
theorem ggL_law_X6_row : GoodIn wsL_law wsX6_row := goodIn_r _ [45, 46, 47, 2, 48, 49, 50, 51, 52, 53, 54, 55, 56, 24, 57, 58, 59, 60, 14, 16, 665, 666, 667, 668, 669, 670, 671] (by decide +kernel) (by decide +kernel)
set_option maxRecDepth 20000 in
theorem gL_law_X6_row : GoodIn wsL_law (wsV RL 15 RX6 yX6_row wsX6_row) := goodIn_app (goodIn_of _ (by decide +kernel)) ggL_law_X6_row
set_option maxRecDepth 20000 in
theorem ggL_law_X7_row : GoodIn wsL_law wsX7_row := goodIn_r _ [64, 65, 66, 67, 68, 5, 69, 70, 71, 72, 73, 29, 30, 672, 673, 674, 675, 676, 677, 678, 679, 680, 681, 682, 683, 684, 685, 686, 687] (by decide +kernel) (by decide +kernel)
set_option maxRecDepth 20000 in
theorem gL_law_X7_row : GoodIn wsL_law (wsV RL 19 RX7 yX7_row wsX7_row) := goodIn_app (goodIn_of _ (by decide +kernel)) ggL_law_X7_row
set_option maxRecDepth 20000 in
theorem ggL_law_X6_sheet : GoodIn wsL_law wsX6_sheet := goodIn_r _ [77, 18, 17, 78, 79, 80, 81, 2, 82, 46, 47, 48, 83, 84, 85, 86, 87, 88, 89, 11, 12, 90, 91, 92, 93, 94, 13, 95, 665, 666, 667, 668, 669, 670, 671, 688, 689] (by decide +kernel) (by decide +kernel)
set_option maxRecDepth 20000 in
theorem gL_law_X6_sheet : GoodIn wsL_law (wsV RL 20 RX6 yX6_sheet wsX6_sheet) := goodIn_app (goodIn_of _ (by decide +kernel)) ggL_law_X6_sheet
set_option maxRecDepth 20000 in
theorem ggL_law_X7_sheet : GoodIn wsL_law wsX7_sheet := goodIn_r _ [99, 100, 101, 31, 32, 33, 67, 68, 5, 69, 672, 673, 674, 675, 676, 677, 678, 679, 680, 681, 682, 683, 684, 685, 686, 687] (by decide +kernel) (by decide +kernel)
set_option maxRecDepth 20000 in
theorem gL_law_X7_sheet : GoodIn wsL_law (wsV RL 24 RX7 yX7_sheet wsX7_sheet) := goodIn_app (goodIn_of _ (by decide +kernel)) ggL_law_X7_sheet
set_option maxRecDepth 20000 in
theorem ggL_law_X6_lay : GoodIn wsL_law wsX6_lay := goodIn_r _ [105, 18, 80, 81, 2, 82, 46, 47, 48, 106, 107, 108, 79, 109, 95, 110, 111, 112, 113, 114, 115, 116, 117, 118, 90, 665, 666, 667, 668, 669, 670, 671, 688, 689] (by decide +kernel) (by decide +kernel)
set_option maxRecDepth 20000 in
theorem gL_law_X6_lay : GoodIn wsL_law (wsV RL 25 RX6 yX6_lay wsX6_lay) := goodIn_app (goodIn_of _ (by decide +kernel)) ggL_law_X6_lay
set_option maxRecDepth 20000 in
theorem ggL_law_X7_lay : GoodIn wsL_law wsX7_lay := goodIn_r _ [122, 100, 31, 32, 33, 67, 68, 5, 69, 672, 673, 674, 675, 676, 677, 678, 679, 680, 681, 682, 683, 684, 685, 686, 687] (by decide +kernel) (by decide +kernel)
set_option maxRecDepth 20000 in
theorem gL_law_X7_lay : GoodIn wsL_law (wsV RL 28 RX7 yX7_lay wsX7_lay) := goodIn_app (goodIn_of _ (by decide +kernel)) ggL_law_X7_lay
set_option maxRecDepth 20000 in
theorem ggL_law_X6_draw : GoodIn wsL_law wsX6_draw := goodIn_r _ [126, 18, 127, 80, 81, 2, 82, 46, 47, 48, 83, 84, 85, 106, 107, 108, 79, 109, 95, 128, 129, 130, 131, 114, 53, 54, 55, 56, 24, 57, 58, 59, 60, 14, 16, 665, 666, 667, 668, 669, 670, 671, 688, 689] (by decide +kernel) (by decide +kernel)
set_option maxRecDepth 20000 in
theorem gL_law_X6_draw : GoodIn wsL_law (wsV RL 29 RX6 yX6_draw wsX6_draw) := goodIn_app (goodIn_of _ (by decide +kernel)) ggL_law_X6_draw
set_option maxRecDepth 20000 in
theorem ggL_law_X7_draw : GoodIn wsL_law wsX7_draw := goodIn_r _ [135, 100, 101, 65, 31, 32, 33, 66, 67, 68, 5, 69, 70, 71, 72, 73, 29, 30, 672, 673, 674, 675, 676, 677, 678, 679, 680, 681, 682, 683, 684, 685, 686, 687] (by decide +kernel) (by decide +kernel)
set_option maxRecDepth 20000 in
theorem gL_law_X7_draw : GoodIn wsL_law (wsV RL 33 RX7 yX7_draw wsX7_draw) := goodIn_app (goodIn_of _ (by decide +kernel)) ggL_law_X7_draw
set_option maxRecDepth 20000 in
theorem ggL_law_X6_drop : GoodIn wsL_law wsX6_drop := goodIn_r _ [139, 24, 665, 666, 667, 668, 669, 670, 671] (by decide +kernel) (by decide +kernel)
set_option maxRecDepth 20000 in
theorem gL_law_X6_drop : GoodIn wsL_law (wsV RL 34 RX6 yX6_drop wsX6_drop) := goodIn_app (goodIn_of _ (by decide +kernel)) ggL_law_X6_drop
set_option maxRecDepth 20000 in
theorem ggL_law_X7_drop : GoodIn wsL_law wsX7_drop := goodIn_r _ [143, 66, 672, 673, 674, 675, 676, 677, 678, 679, 680, 681, 682, 683, 684, 685, 686, 687] (by decide +kernel) (by decide +kernel)
set_option maxRecDepth 20000 in
theorem gL_law_X7_drop : GoodIn wsL_law (wsV RL 38 RX7 yX7_drop wsX7_drop) := goodIn_app (goodIn_of _ (by decide +kernel)) ggL_law_X7_drop
set_option maxRecDepth 20000 in
theorem ggL_law_X6_length : GoodIn wsL_law wsX6_length := goodIn_r _ [147, 14, 148, 149, 150, 2, 151, 24, 46, 47, 48, 665, 666, 667, 668, 669, 670, 671] (by decide +kernel) (by decide +kernel)
set_option maxRecDepth 20000 in
theorem gL_law_X6_length : GoodIn wsL_law (wsV RL 39 RX6 yX6_length wsX6_length) := goodIn_app (goodIn_of _ (by decide +kernel)) ggL_law_X6_length
set_option maxRecDepth 20000 in
theorem ggL_law_X7_length : GoodIn wsL_law wsX7_length := goodIn_r _ [155, 29, 156, 157, 158, 5, 159, 66, 67, 68, 69, 672, 673, 674, 675, 676, 677, 678, 679, 680, 681, 682, 683, 684, 685, 686, 687] (by decide +kernel) (by decide +kernel)
set_option maxRecDepth 20000 in
theorem gL_law_X7_length : GoodIn wsL_law (wsV RL 43 RX7 yX7_length wsX7_length) := goodIn_app (goodIn_of _ (by decide +kernel)) ggL_law_X7_length
set_option maxRecDepth 20000 in
theorem ggL_law_X6_place : GoodIn wsL_law wsX6_place := goodIn_r _ [163, 14, 16, 148, 149, 150, 2, 151, 24, 46, 47, 48, 164, 165, 51, 166, 665, 666, 667, 668, 669, 670, 671] (by decide +kernel) (by decide +kernel)
set_option maxRecDepth 20000 in
theorem gL_law_X6_place : GoodIn wsL_law (wsV RL 44 RX6 yX6_place wsX6_place) := goodIn_app (goodIn_of _ (by decide +kernel)) ggL_law_X6_place
set_option maxRecDepth 20000 in
theorem ggL_law_X7_place : GoodIn wsL_law wsX7_place := goodIn_r _ [170, 29, 30, 156, 157, 158, 5, 159, 66, 67, 68, 69, 171, 172, 173, 672, 673, 674, 675, 676, 677, 678, 679, 680, 681, 682, 683, 684, 685, 686, 687] (by decide +kernel) (by decide +kernel)
set_option maxRecDepth 20000 in
theorem gL_law_X7_place : GoodIn wsL_law (wsV RL 48 RX7 yX7_place wsX7_place) := goodIn_app (goodIn_of _ (by decide +kernel)) ggL_law_X7_place
set_option maxRecDepth 20000 in
theorem ggL_law_X6_number : GoodIn wsL_law wsX6_number := goodIn_r _ [177, 16, 178, 148, 149, 150, 2, 151, 24, 46, 47, 48, 665, 666, 667, 668, 669, 670, 671] (by decide +kernel) (by decide +kernel)
set_option maxRecDepth 20000 in
theorem gL_law_X6_number : GoodIn wsL_law (wsV RL 49 RX6 yX6_number wsX6_number) := goodIn_app (goodIn_of _ (by decide +kernel)) ggL_law_X6_number
set_option maxRecDepth 20000 in
theorem ggL_law_X7_number : GoodIn wsL_law wsX7_number := goodIn_r _ [182, 30, 183, 156, 157, 158, 5, 159, 66, 67, 68, 69, 672, 673, 674, 675, 676, 677, 678, 679, 680, 681, 682, 683, 684, 685, 686, 687] (by decide +kernel) (by decide +kernel)
set_option maxRecDepth 20000 in
theorem gL_law_X7_number : GoodIn wsL_law (wsV RL 53 RX7 yX7_number wsX7_number) := goodIn_app (goodIn_of _ (by decide +kernel)) ggL_law_X7_number
set_option maxRecDepth 20000 in
theorem ggL_law_X6_open : GoodIn wsL_law wsX6_open := goodIn_r _ [187, 14, 16, 148, 149, 150, 2, 151, 24, 46, 47, 48, 188, 189, 51, 190, 191, 50, 52, 192, 193, 194, 195, 196, 197, 198, 665, 666, 667, 668, 669, 670, 671] (by decide +kernel) (by decide +kernel)
set_option maxRecDepth 20000 in
theorem gL_law_X6_open : GoodIn wsL_law (wsV RL 54 RX6 yX6_open wsX6_open) := goodIn_app (goodIn_of _ (by decide +kernel)) ggL_law_X6_open
set_option maxRecDepth 20000 in
theorem ggL_law_X7_open : GoodIn wsL_law wsX7_open := goodIn_r _ [202, 29, 30, 156, 157, 158, 5, 159, 66, 67, 68, 69, 203, 204, 205, 171, 172, 173, 672, 673, 674, 675, 676, 677, 678, 679, 680, 681, 682, 683, 684, 685, 686, 687] (by decide +kernel) (by decide +kernel)
set_option maxRecDepth 20000 in
theorem gL_law_X7_open : GoodIn wsL_law (wsV RL 57 RX7 yX7_open wsX7_open) := goodIn_app (goodIn_of _ (by decide +kernel)) ggL_law_X7_open
set_option maxRecDepth 20000 in
theorem ggL_law_X6_round : GoodIn wsL_law wsX6_round := goodIn_r _ [209, 14, 16, 148, 149, 150, 2, 151, 24, 46, 47, 48, 210, 211, 51, 212, 191, 50, 52, 192, 193, 194, 195, 196, 197, 198, 665, 666, 667, 668, 669, 670, 671] (by decide +kernel) (by decide +kernel)
set_option maxRecDepth 20000 in
theorem gL_law_X6_round : GoodIn wsL_law (wsV RL 58 RX6 yX6_round wsX6_round) := goodIn_app (goodIn_of _ (by decide +kernel)) ggL_law_X6_round
set_option maxRecDepth 20000 in
theorem ggL_law_X7_round : GoodIn wsL_law wsX7_round := goodIn_r _ [216, 29, 30, 156, 157, 158, 5, 159, 66, 67, 68, 69, 217, 218, 219, 171, 172, 173, 672, 673, 674, 675, 676, 677, 678, 679, 680, 681, 682, 683, 684, 685, 686, 687] (by decide +kernel) (by decide +kernel)
set_option maxRecDepth 20000 in
theorem gL_law_X7_round : GoodIn wsL_law (wsV RL 61 RX7 yX7_round wsX7_round) := goodIn_app (goodIn_of _ (by decide +kernel)) ggL_law_X7_round
set_option maxRecDepth 20000 in
theorem ggL_law_X6_about : GoodIn wsL_law wsX6_about := goodIn_r _ [223, 16, 14, 148, 149, 150, 2, 151, 24, 46, 47, 48, 224, 225, 51, 226, 227, 228, 93, 229, 230, 92, 94, 231, 189, 190, 191, 50, 52, 192, 193, 194, 195, 196, 197, 198, 232, 233, 234, 235, 236, 237, 238, 239, 240, 241, 242, 243, 244, 245, 246, 247, 248, 249, 250, 251, 252, 253, 254, 255, 256, 665, 666, 667, 668, 669, 670, 671] (by decide +kernel) (by decide +kernel)
set_option maxRecDepth 20000 in
theorem gL_law_X6_about : GoodIn wsL_law (wsV RL 62 RX6 yX6_about wsX6_about) := goodIn_app (goodIn_of _ (by decide +kernel)) ggL_law_X6_about
set_option maxRecDepth 20000 in
theorem ggL_law_X7_about : GoodIn wsL_law wsX7_about := goodIn_r _ [260, 29, 30, 261, 156, 157, 158, 5, 159, 66, 67, 68, 69, 262, 263, 264, 203, 204, 205, 171, 172, 173, 265, 266, 267, 268, 269, 270, 271, 34, 272, 273, 274, 672, 673, 674, 675, 676, 677, 678, 679, 680, 681, 682, 683, 684, 685, 686, 687] (by decide +kernel) (by decide +kernel)
set_option maxRecDepth 20000 in
theorem gL_law_X7_about : GoodIn wsL_law (wsV RL 65 RX7 yX7_about wsX7_about) := goodIn_app (goodIn_of _ (by decide +kernel)) ggL_law_X7_about
set_option maxRecDepth 20000 in
theorem ggL_law_X6_least : GoodIn wsL_law wsX6_least := goodIn_r _ [278, 16, 14, 178, 148, 149, 150, 2, 151, 24, 46, 47, 48, 279, 280, 51, 281, 282, 283, 93, 284, 247, 248, 249, 250, 251, 252, 253, 254, 255, 256, 191, 50, 52, 665, 666, 667, 668, 669, 670, 671] (by decide +kernel) (by decide +kernel)
set_option maxRecDepth 20000 in
theorem gL_law_X6_least : GoodIn wsL_law (wsV RL 66 RX6 yX6_least wsX6_least) := goodIn_app (goodIn_of _ (by decide +kernel)) ggL_law_X6_least
set_option maxRecDepth 20000 in
theorem ggL_law_X7_least : GoodIn wsL_law wsX7_least := goodIn_r _ [288, 29, 30, 183, 156, 157, 158, 5, 159, 66, 67, 68, 69, 268, 269, 270, 271, 34, 261, 272, 273, 274, 171, 172, 173, 672, 673, 674, 675, 676, 677, 678, 679, 680, 681, 682, 683, 684, 685, 686, 687] (by decide +kernel) (by decide +kernel)
set_option maxRecDepth 20000 in
theorem gL_law_X7_least : GoodIn wsL_law (wsV RL 69 RX7 yX7_least wsX7_least) := goodIn_app (goodIn_of _ (by decide +kernel)) ggL_law_X7_least
set_option maxRecDepth 20000 in
theorem ggL_law_X6_turn : GoodIn wsL_law wsX6_turn := goodIn_r _ [292, 14, 16, 148, 149, 150, 2, 151, 24, 46, 47, 48, 53, 54, 55, 56, 293, 248, 51, 249, 250, 251, 252, 253, 254, 255, 256, 191, 50, 52, 57, 58, 59, 60, 665, 666, 667, 668, 669, 670, 671] (by decide +kernel) (by decide +kernel)
set_option maxRecDepth 20000 in
theorem gL_law_X6_turn : GoodIn wsL_law (wsV RL 70 RX6 yX6_turn wsX6_turn) := goodIn_app (goodIn_of _ (by decide +kernel)) ggL_law_X6_turn
set_option maxRecDepth 20000 in
theorem ggL_law_X7_turn : GoodIn wsL_law wsX7_turn := goodIn_r _ [297, 101, 66, 29, 30, 156, 157, 158, 5, 159, 67, 68, 69, 272, 273, 274, 171, 172, 173, 70, 71, 72, 73, 672, 673, 674, 675, 676, 677, 678, 679, 680, 681, 682, 683, 684, 685, 686, 687] (by decide +kernel) (by decide +kernel)
set_option maxRecDepth 20000 in
theorem gL_law_X7_turn : GoodIn wsL_law (wsV RL 73 RX7 yX7_turn wsX7_turn) := goodIn_app (goodIn_of _ (by decide +kernel)) ggL_law_X7_turn
set_option maxRecDepth 20000 in
theorem ggL_law_X6_put : GoodIn wsL_law wsX6_put := goodIn_r _ [301, 14, 16, 148, 149, 150, 2, 151, 24, 46, 47, 48, 53, 54, 55, 56, 302, 303, 51, 304, 57, 58, 59, 60, 665, 666, 667, 668, 669, 670, 671] (by decide +kernel) (by decide +kernel)
set_option maxRecDepth 20000 in
theorem gL_law_X6_put : GoodIn wsL_law (wsV RL 74 RX6 yX6_put wsX6_put) := goodIn_app (goodIn_of _ (by decide +kernel)) ggL_law_X6_put
set_option maxRecDepth 20000 in
theorem ggL_law_X7_put : GoodIn wsL_law wsX7_put := goodIn_r _ [308, 29, 66, 30, 156, 157, 158, 5, 159, 67, 68, 69, 309, 310, 311, 70, 71, 72, 73, 672, 673, 674, 675, 676, 677, 678, 679, 680, 681, 682, 683, 684, 685, 686, 687] (by decide +kernel) (by decide +kernel)
set_option maxRecDepth 20000 in
theorem gL_law_X7_put : GoodIn wsL_law (wsV RL 77 RX7 yX7_put wsX7_put) := goodIn_app (goodIn_of _ (by decide +kernel)) ggL_law_X7_put
set_option maxRecDepth 20000 in
theorem ggL_law_X6_weave : GoodIn wsL_law wsX6_weave := goodIn_r _ [315, 14, 16, 316, 317, 318, 2, 319, 148, 149, 150, 151, 24, 46, 47, 48, 53, 54, 55, 56, 320, 321, 51, 322, 57, 58, 59, 60, 665, 666, 667, 668, 669, 670, 671] (by decide +kernel) (by decide +kernel)
set_option maxRecDepth 20000 in
theorem gL_law_X6_weave : GoodIn wsL_law (wsV RL 78 RX6 yX6_weave wsX6_weave) := goodIn_app (goodIn_of _ (by decide +kernel)) ggL_law_X6_weave
set_option maxRecDepth 20000 in
theorem ggL_law_X7_weave : GoodIn wsL_law wsX7_weave := goodIn_r _ [326, 29, 66, 30, 327, 328, 329, 5, 330, 156, 157, 158, 159, 67, 68, 69, 70, 71, 72, 73, 672, 673, 674, 675, 676, 677, 678, 679, 680, 681, 682, 683, 684, 685, 686, 687] (by decide +kernel) (by decide +kernel)
set_option maxRecDepth 20000 in
theorem gL_law_X7_weave : GoodIn wsL_law (wsV RL 81 RX7 yX7_weave wsX7_weave) := goodIn_app (goodIn_of _ (by decide +kernel)) ggL_law_X7_weave
set_option maxRecDepth 20000 in
theorem ggL_law_X6_times : GoodIn wsL_law wsX6_times := goodIn_r _ [334, 14, 16, 148, 149, 150, 2, 151, 24, 46, 47, 48, 53, 54, 55, 56, 335, 336, 51, 337, 338, 165, 166, 254, 255, 256, 191, 50, 52, 57, 58, 59, 60, 665, 666, 667, 668, 669, 670, 671] (by decide +kernel) (by decide +kernel)
set_option maxRecDepth 20000 in
theorem gL_law_X6_times : GoodIn wsL_law (wsV RL 82 RX6 yX6_times wsX6_times) := goodIn_app (goodIn_of _ (by decide +kernel)) ggL_law_X6_times
set_option maxRecDepth 20000 in
theorem ggL_law_X7_times : GoodIn wsL_law wsX7_times := goodIn_r _ [342, 29, 66, 30, 156, 157, 158, 5, 159, 67, 68, 69, 171, 172, 173, 70, 71, 72, 73, 672, 673, 674, 675, 676, 677, 678, 679, 680, 681, 682, 683, 684, 685, 686, 687] (by decide +kernel) (by decide +kernel)
set_option maxRecDepth 20000 in
theorem gL_law_X7_times : GoodIn wsL_law (wsV RL 85 RX7 yX7_times wsX7_times) := goodIn_app (goodIn_of _ (by decide +kernel)) ggL_law_X7_times
set_option maxRecDepth 20000 in
theorem ggL_law_X6_cancels : GoodIn wsL_law wsX6_cancels := goodIn_r _ [346, 16, 14, 316, 317, 318, 2, 319, 148, 149, 150, 151, 24, 46, 47, 48, 347, 348, 51, 349, 231, 189, 190, 191, 50, 52, 192, 193, 194, 195, 196, 197, 198, 665, 666, 667, 668, 669, 670, 671] (by decide +kernel) (by decide +kernel)
set_option maxRecDepth 20000 in
theorem gL_law_X6_cancels : GoodIn wsL_law (wsV RL 86 RX6 yX6_cancels wsX6_cancels) := goodIn_app (goodIn_of _ (by decide +kernel)) ggL_law_X6_cancels
set_option maxRecDepth 20000 in
theorem ggL_law_X7_cancels : GoodIn wsL_law wsX7_cancels := goodIn_r _ [353, 29, 30, 327, 328, 329, 5, 330, 156, 157, 158, 159, 66, 67, 68, 69, 354, 355, 356, 203, 204, 205, 171, 172, 173, 672, 673, 674, 675, 676, 677, 678, 679, 680, 681, 682, 683, 684, 685, 686, 687] (by decide +kernel) (by decide +kernel)
set_option maxRecDepth 20000 in
theorem gL_law_X7_cancels : GoodIn wsL_law (wsV RL 89 RX7 yX7_cancels wsX7_cancels) := goodIn_app (goodIn_of _ (by decide +kernel)) ggL_law_X7_cancels
set_option maxRecDepth 20000 in
theorem ggL_law_X6_four : GoodIn wsL_law wsX6_four := goodIn_r _ [360, 14, 16, 316, 317, 318, 2, 319, 148, 149, 150, 151, 24, 46, 47, 48, 210, 211, 51, 212, 191, 50, 52, 192, 193, 194, 195, 196, 197, 198, 665, 666, 667, 668, 669, 670, 671] (by decide +kernel) (by decide +kernel)
set_option maxRecDepth 20000 in
theorem gL_law_X6_four : GoodIn wsL_law (wsV RL 90 RX6 yX6_four wsX6_four) := goodIn_app (goodIn_of _ (by decide +kernel)) ggL_law_X6_four
set_option maxRecDepth 20000 in
theorem ggL_law_X7_four : GoodIn wsL_law wsX7_four := goodIn_r _ [364, 29, 30, 327, 328, 329, 5, 330, 156, 157, 158, 159, 66, 67, 68, 69, 217, 218, 219, 171, 172, 173, 672, 673, 674, 675, 676, 677, 678, 679, 680, 681, 682, 683, 684, 685, 686, 687] (by decide +kernel) (by decide +kernel)
set_option maxRecDepth 20000 in
theorem gL_law_X7_four : GoodIn wsL_law (wsV RL 93 RX7 yX7_four wsX7_four) := goodIn_app (goodIn_of _ (by decide +kernel)) ggL_law_X7_four
set_option maxRecDepth 20000 in
theorem ggL_law_X6_doubled : GoodIn wsL_law wsX6_doubled := goodIn_r _ [368, 14, 16, 316, 317, 318, 2, 319, 148, 149, 150, 151, 24, 46, 47, 48, 53, 54, 55, 56, 302, 303, 51, 304, 57, 58, 59, 60, 369, 255, 256, 191, 50, 52, 665, 666, 667, 668, 669, 670, 671] (by decide +kernel) (by decide +kernel)
set_option maxRecDepth 20000 in
theorem gL_law_X6_doubled : GoodIn wsL_law (wsV RL 94 RX6 yX6_doubled wsX6_doubled) := goodIn_app (goodIn_of _ (by decide +kernel)) ggL_law_X6_doubled
set_option maxRecDepth 20000 in
theorem ggL_law_X7_doubled : GoodIn wsL_law wsX7_doubled := goodIn_r _ [373, 29, 66, 30, 327, 328, 329, 5, 330, 156, 157, 158, 159, 67, 68, 69, 309, 310, 311, 70, 71, 72, 73, 374, 375, 376, 672, 673, 674, 675, 676, 677, 678, 679, 680, 681, 682, 683, 684, 685, 686, 687] (by decide +kernel) (by decide +kernel)
set_option maxRecDepth 20000 in
theorem gL_law_X7_doubled : GoodIn wsL_law (wsV RL 97 RX7 yX7_doubled wsX7_doubled) := goodIn_app (goodIn_of _ (by decide +kernel)) ggL_law_X7_doubled
set_option maxRecDepth 20000 in
theorem ggL_law_X6_told : GoodIn wsL_law wsX6_told := goodIn_r _ [380, 46, 47, 2, 48, 381, 382, 383, 384, 385, 386, 387, 388, 389, 390, 391, 53, 54, 55, 56, 24, 392, 393, 394, 395, 396, 397, 398, 399, 400, 401, 302, 303, 51, 304, 369, 255, 256, 191, 50, 52, 57, 58, 59, 60, 14, 16, 665, 666, 667, 668, 669, 670, 671] (by decide +kernel) (by decide +kernel)
set_option maxRecDepth 20000 in
theorem gL_law_X6_told : GoodIn wsL_law (wsV RL 98 RX6 yX6_told wsX6_told) := goodIn_app (goodIn_of _ (by decide +kernel)) ggL_law_X6_told
set_option maxRecDepth 20000 in
theorem ggL_law_X7_told : GoodIn wsL_law wsX7_told := goodIn_r _ [405, 65, 406, 407, 408, 409, 66, 67, 68, 5, 69, 410, 411, 412, 309, 310, 311, 374, 375, 376, 70, 71, 72, 73, 29, 30, 672, 673, 674, 675, 676, 677, 678, 679, 680, 681, 682, 683, 684, 685, 686, 687] (by decide +kernel) (by decide +kernel)
set_option maxRecDepth 20000 in
theorem gL_law_X7_told : GoodIn wsL_law (wsV RL 101 RX7 yX7_told wsX7_told) := goodIn_app (goodIn_of _ (by decide +kernel)) ggL_law_X7_told
set_option maxRecDepth 20000 in
theorem ggL_law_X6_why : GoodIn wsL_law wsX6_why := goodIn_r _ [416, 417, 46, 47, 2, 48, 418, 419, 420, 421, 422, 423, 424, 425, 426, 93, 427, 428, 429, 430, 431, 432] (by decide +kernel) (by decide +kernel)
set_option maxRecDepth 20000 in
theorem gL_law_X6_why : GoodIn wsL_law (wsV RL 102 RX6 yX6_why wsX6_why) := goodIn_app (goodIn_of _ (by decide +kernel)) ggL_law_X6_why
set_option maxRecDepth 20000 in
theorem ggL_law_X7_why : GoodIn wsL_law wsX7_why := goodIn_r _ [436, 437, 67, 68, 5, 69, 438, 439, 440, 441, 442, 443] (by decide +kernel) (by decide +kernel)
set_option maxRecDepth 20000 in
theorem gL_law_X7_why : GoodIn wsL_law (wsV RL 105 RX7 yX7_why wsX7_why) := goodIn_app (goodIn_of _ (by decide +kernel)) ggL_law_X7_why
set_option maxRecDepth 20000 in
theorem ggL_law_X6_squares : GoodIn wsL_law wsX6_squares := goodIn_r _ [447, 417, 46, 47, 2, 48, 418, 419, 420, 421, 422, 423, 424, 425, 426, 93, 427, 428, 429] (by decide +kernel) (by decide +kernel)
set_option maxRecDepth 20000 in
theorem gL_law_X6_squares : GoodIn wsL_law (wsV RL 106 RX6 yX6_squares wsX6_squares) := goodIn_app (goodIn_of _ (by decide +kernel)) ggL_law_X6_squares
set_option maxRecDepth 20000 in
theorem ggL_law_X7_squares : GoodIn wsL_law wsX7_squares := goodIn_r _ [451, 452, 453, 437, 67, 68, 5, 69, 438, 439, 440, 441, 442, 443] (by decide +kernel) (by decide +kernel)
set_option maxRecDepth 20000 in
theorem gL_law_X7_squares : GoodIn wsL_law (wsV RL 109 RX7 yX7_squares wsX7_squares) := goodIn_app (goodIn_of _ (by decide +kernel)) ggL_law_X7_squares
set_option maxRecDepth 20000 in
theorem ggL_law_X6_pairs : GoodIn wsL_law wsX6_pairs := goodIn_r _ [457, 458, 46, 47, 2, 48, 459, 460, 461, 462, 20, 19, 463, 464, 465, 466, 467, 468, 11, 12, 469, 470, 471, 472, 473, 474, 475, 476, 477, 478, 479, 480, 481, 482, 483, 484, 485, 486, 487, 488, 489, 348, 51, 349, 231, 189, 190, 191, 50, 52, 192, 193, 194, 195, 196, 197, 198, 490, 491, 492, 493, 494, 495, 496, 497, 248, 249, 250, 251, 252, 253, 254, 255, 256, 498, 499, 387, 500, 501, 502, 503, 504, 505, 506, 507, 508, 509, 510, 511, 512, 513, 514, 515, 516, 517, 518, 519, 520, 521, 522, 523, 524, 525, 526, 527, 528, 529, 530, 531, 532, 533, 92, 93, 94, 534, 535, 536, 537, 538, 539, 540, 541, 542, 543, 544, 545, 546, 547, 548, 549, 550, 551, 552, 553, 554, 555, 556, 557, 426, 427, 558, 559, 560, 561, 562, 563, 564, 565, 566, 567, 568, 569, 570, 571, 572, 573, 574, 575, 576, 577, 578, 579, 580, 581, 582, 583, 584, 585, 586, 587, 588, 589, 590, 591, 592, 593, 594, 690, 691, 665, 666, 667, 668, 669, 670, 671, 692, 693, 694, 695] (by decide +kernel) (by decide +kernel)
set_option maxRecDepth 20000 in
theorem gL_law_X6_pairs : GoodIn wsL_law (wsV RL 110 RX6 yX6_pairs wsX6_pairs) := goodIn_app (goodIn_of _ (by decide +kernel)) ggL_law_X6_pairs
set_option maxRecDepth 20000 in
theorem ggL_law_X7_pairs : GoodIn wsL_law wsX7_pairs := goodIn_r _ [598, 599, 100, 600, 601, 36, 67, 68, 5, 69, 602, 603, 604, 605, 35, 38, 37, 203, 204, 205, 171, 172, 173, 606, 607, 608, 272, 273, 274, 672, 673, 674, 675, 676, 677, 678, 679, 680, 681, 682, 683, 684, 685, 686, 687] (by decide +kernel) (by decide +kernel)
set_option maxRecDepth 20000 in
theorem gL_law_X7_pairs : GoodIn wsL_law (wsV RL 113 RX7 yX7_pairs wsX7_pairs) := goodIn_app (goodIn_of _ (by decide +kernel)) ggL_law_X7_pairs
set_option maxRecDepth 20000 in
theorem ggL_law_X6_pair : GoodIn wsL_law wsX6_pair := goodIn_r _ [612, 46, 47, 2, 48, 459, 460, 461, 462, 20, 19, 463, 464, 465, 466, 467, 468, 11, 12, 469, 470, 471, 472, 473, 474, 475, 476, 477, 478, 479, 480, 481, 482, 483, 484, 485, 486, 487, 488, 489, 348, 51, 349, 231, 189, 190, 191, 50, 52, 192, 193, 194, 195, 196, 197, 198, 490, 491, 492, 493, 494, 495, 496, 497, 248, 249, 250, 251, 252, 253, 254, 255, 256, 498, 499, 387, 500, 501, 502, 503, 504, 505, 506, 507, 508, 509, 510, 511, 512, 513, 514, 515, 516, 517, 518, 519, 520, 521, 522, 523, 524, 525, 526, 527, 528, 529, 530, 531, 532, 533, 92, 93, 94, 534, 535, 536, 537, 538, 539, 540, 541, 542, 543, 544, 545, 546, 547, 548, 549, 550, 551, 552, 553, 554, 555, 556, 557, 426, 427, 558, 559, 560, 561, 562, 563, 564, 565, 566, 567, 568, 569, 570, 571, 572, 573, 574, 575, 576, 577, 578, 579, 580, 581, 582, 583, 584, 585, 586, 587, 588, 589, 590, 591, 592, 593, 594, 665, 666, 667, 668, 669, 670, 671, 690, 691, 692, 693, 694, 695] (by decide +kernel) (by decide +kernel)
set_option maxRecDepth 20000 in
theorem gL_law_X6_pair : GoodIn wsL_law (wsV RL 114 RX6 yX6_pair wsX6_pair) := goodIn_app (goodIn_of _ (by decide +kernel)) ggL_law_X6_pair
set_option maxRecDepth 20000 in
theorem ggL_law_X7_pair : GoodIn wsL_law wsX7_pair := goodIn_r _ [616, 599, 601, 37, 67, 68, 5, 69, 602, 603, 604, 605, 35, 38, 600, 36, 203, 204, 205, 171, 172, 173, 606, 607, 608, 272, 273, 274, 672, 673, 674, 675, 676, 677, 678, 679, 680, 681, 682, 683, 684, 685, 686, 687] (by decide +kernel) (by decide +kernel)
set_option maxRecDepth 20000 in
theorem gL_law_X7_pair : GoodIn wsL_law (wsV RL 117 RX7 yX7_pair wsX7_pair) := goodIn_app (goodIn_of _ (by decide +kernel)) ggL_law_X7_pair
set_option maxRecDepth 20000 in
theorem ggL_law_X6_best : GoodIn wsL_law wsX6_best := goodIn_r _ [620, 621, 622, 623, 624, 46, 47, 2, 48, 625, 626, 627, 628, 22, 23, 21, 629, 630, 631, 632, 633, 634, 11, 12, 635, 636, 637, 638, 639, 640, 225, 51, 226, 227, 228, 93, 229, 230, 92, 94, 231, 189, 190, 191, 50, 52, 192, 193, 194, 195, 196, 197, 198, 641, 233, 234, 642, 280, 281, 282, 283, 284, 247, 248, 249, 250, 251, 252, 253, 254, 255, 256, 696, 697, 698, 699, 665, 666, 667, 668, 669, 670, 671] (by decide +kernel) (by decide +kernel)
set_option maxRecDepth 20000 in
theorem gL_law_X6_best : GoodIn wsL_law (wsV RL 118 RX6 yX6_best wsX6_best) := goodIn_app (goodIn_of _ (by decide +kernel)) ggL_law_X6_best
set_option maxRecDepth 20000 in
theorem ggL_law_X7_best : GoodIn wsL_law wsX7_best := goodIn_r _ [646, 647, 100, 40, 41, 67, 68, 5, 69, 648, 649, 650, 651, 652, 262, 263, 264, 203, 204, 205, 171, 172, 173, 265, 266, 267, 268, 269, 270, 271, 34, 261, 272, 273, 274, 672, 673, 674, 675, 676, 677, 678, 679, 680, 681, 682, 683, 684, 685, 686, 687] (by decide +kernel) (by decide +kernel)
set_option maxRecDepth 20000 in
theorem gL_law_X7_best : GoodIn wsL_law (wsV RL 121 RX7 yX7_best wsX7_best) := goodIn_app (goodIn_of _ (by decide +kernel)) ggL_law_X7_best
set_option maxRecDepth 20000 in
theorem ggL_law_X6_count : GoodIn wsL_law wsX6_count := goodIn_r _ [656, 24, 18, 46, 47, 2, 48, 657, 658, 659, 79, 660, 95, 665, 666, 667, 668, 669, 670, 671, 688, 689] (by decide +kernel) (by decide +kernel)
set_option maxRecDepth 20000 in
theorem gL_law_X6_count : GoodIn wsL_law (wsV RL 122 RX6 yX6_count wsX6_count) := goodIn_app (goodIn_of _ (by decide +kernel)) ggL_law_X6_count
set_option maxRecDepth 20000 in
theorem ggL_law_X7_count : GoodIn wsL_law wsX7_count := goodIn_r _ [664, 66, 31, 32, 672, 673, 674, 675, 676, 677, 678, 679, 680, 681, 682, 683, 684, 685, 686, 687] (by decide +kernel) (by decide +kernel)
set_option maxRecDepth 20000 in
theorem gL_law_X7_count : GoodIn wsL_law (wsV RL 125 RX7 yX7_count wsX7_count) := goodIn_app (goodIn_of _ (by decide +kernel)) ggL_law_X7_count
theorem dL_law_0 : decode cL_law 0 = .ok (.new 7, 3) := by decide +kernel
theorem dL_law_3 : decode cL_law 3 = .ok (.dup, 1) := by decide +kernel
theorem dL_law_4 : decode cL_law 4 = .ok (.invokespecial 9, 3) := by decide +kernel
theorem dL_law_7 : decode cL_law 7 = .ok (.astore_n 1, 1) := by decide +kernel
theorem dL_law_8 : decode cL_law 8 = .ok (.new 10, 3) := by decide +kernel
theorem dL_law_11 : decode cL_law 11 = .ok (.dup, 1) := by decide +kernel
theorem dL_law_12 : decode cL_law 12 = .ok (.invokespecial 12, 3) := by decide +kernel
theorem dL_law_15 : decode cL_law 15 = .ok (.astore_n 2, 1) := by decide +kernel
theorem dL_law_16 : decode cL_law 16 = .ok (.iconst 0, 1) := by decide +kernel
theorem dL_law_17 : decode cL_law 17 = .ok (.istore_n 3, 1) := by decide +kernel
theorem dL_law_18 : decode cL_law 18 = .ok (.iload_n 3, 1) := by decide +kernel
theorem dL_law_19 : decode cL_law 19 = .ok (.aload_n 0, 1) := by decide +kernel
theorem dL_law_20 : decode cL_law 20 = .ok (.arraylength, 1) := by decide +kernel
theorem dL_law_21 : decode cL_law 21 = .ok (.iconst 5, 1) := by decide +kernel
theorem dL_law_22 : decode cL_law 22 = .ok (.isub, 1) := by decide +kernel
theorem dL_law_23 : decode cL_law 23 = .ok (.if_icmp .gt 1015, 3) := by decide +kernel
theorem dL_law_26 : decode cL_law 26 = .ok (.aload_n 0, 1) := by decide +kernel
theorem dL_law_27 : decode cL_law 27 = .ok (.iload_n 3, 1) := by decide +kernel
theorem dL_law_28 : decode cL_law 28 = .ok (.iaload, 1) := by decide +kernel
theorem dL_law_29 : decode cL_law 29 = .ok (.bipush 31, 2) := by decide +kernel
theorem dL_law_31 : decode cL_law 31 = .ok (.iand, 1) := by decide +kernel
theorem dL_law_32 : decode cL_law 32 = .ok (.tableswitch 1000 0 25 #[120, 183, 226, 269, 322, 335, 358, 391, 415, 448, 481, 514, 538, 571, 604, 637, 670, 703, 756, 789, 812, 835, 868, 901, 934, 977], 120) := by decide +kernel
theorem dL_law_152 : decode cL_law 152 = .ok (.aload_n 1, 1) := by decide +kernel
theorem dL_law_153 : decode cL_law 153 = .ok (.aload_n 0, 1) := by decide +kernel
theorem dL_law_154 : decode cL_law 154 = .ok (.iload_n 3, 1) := by decide +kernel
theorem dL_law_155 : decode cL_law 155 = .ok (.iconst 1, 1) := by decide +kernel
theorem dL_law_156 : decode cL_law 156 = .ok (.iadd, 1) := by decide +kernel
theorem dL_law_157 : decode cL_law 157 = .ok (.iaload, 1) := by decide +kernel
theorem dL_law_158 : decode cL_law 158 = .ok (.aload_n 0, 1) := by decide +kernel
theorem dL_law_159 : decode cL_law 159 = .ok (.iload_n 3, 1) := by decide +kernel
theorem dL_law_160 : decode cL_law 160 = .ok (.iconst 2, 1) := by decide +kernel
theorem dL_law_161 : decode cL_law 161 = .ok (.iadd, 1) := by decide +kernel
theorem dL_law_162 : decode cL_law 162 = .ok (.iaload, 1) := by decide +kernel
theorem dL_law_163 : decode cL_law 163 = .ok (.i2l, 1) := by decide +kernel
theorem dL_law_164 : decode cL_law 164 = .ok (.bipush 32, 2) := by decide +kernel
theorem dL_law_166 : decode cL_law 166 = .ok (.lshl, 1) := by decide +kernel
theorem dL_law_167 : decode cL_law 167 = .ok (.aload_n 0, 1) := by decide +kernel
theorem dL_law_168 : decode cL_law 168 = .ok (.iload_n 3, 1) := by decide +kernel
theorem dL_law_169 : decode cL_law 169 = .ok (.iconst 3, 1) := by decide +kernel
theorem dL_law_170 : decode cL_law 170 = .ok (.iadd, 1) := by decide +kernel
theorem dL_law_171 : decode cL_law 171 = .ok (.iaload, 1) := by decide +kernel
theorem dL_law_172 : decode cL_law 172 = .ok (.i2l, 1) := by decide +kernel
theorem dL_law_173 : decode cL_law 173 = .ok (.ldc2_w 13, 3) := by decide +kernel
theorem dL_law_176 : decode cL_law 176 = .ok (.land, 1) := by decide +kernel
theorem dL_law_177 : decode cL_law 177 = .ok (.lor, 1) := by decide +kernel
theorem dL_law_178 : decode cL_law 178 = .ok (.invokevirtual 15, 3) := by decide +kernel
theorem dL_law_181 : decode cL_law 181 = .ok (.aload_n 2, 1) := by decide +kernel
theorem dL_law_182 : decode cL_law 182 = .ok (.aload_n 0, 1) := by decide +kernel
theorem dL_law_183 : decode cL_law 183 = .ok (.iload_n 3, 1) := by decide +kernel
theorem dL_law_184 : decode cL_law 184 = .ok (.iconst 1, 1) := by decide +kernel
theorem dL_law_185 : decode cL_law 185 = .ok (.iadd, 1) := by decide +kernel
theorem dL_law_186 : decode cL_law 186 = .ok (.iaload, 1) := by decide +kernel
theorem dL_law_187 : decode cL_law 187 = .ok (.aload_n 0, 1) := by decide +kernel
theorem dL_law_188 : decode cL_law 188 = .ok (.iload_n 3, 1) := by decide +kernel
theorem dL_law_189 : decode cL_law 189 = .ok (.iconst 2, 1) := by decide +kernel
theorem dL_law_190 : decode cL_law 190 = .ok (.iadd, 1) := by decide +kernel
theorem dL_law_191 : decode cL_law 191 = .ok (.iaload, 1) := by decide +kernel
theorem dL_law_192 : decode cL_law 192 = .ok (.i2l, 1) := by decide +kernel
theorem dL_law_193 : decode cL_law 193 = .ok (.bipush 32, 2) := by decide +kernel
theorem dL_law_195 : decode cL_law 195 = .ok (.lshl, 1) := by decide +kernel
theorem dL_law_196 : decode cL_law 196 = .ok (.aload_n 0, 1) := by decide +kernel
theorem dL_law_197 : decode cL_law 197 = .ok (.iload_n 3, 1) := by decide +kernel
theorem dL_law_198 : decode cL_law 198 = .ok (.iconst 3, 1) := by decide +kernel
theorem dL_law_199 : decode cL_law 199 = .ok (.iadd, 1) := by decide +kernel
theorem dL_law_200 : decode cL_law 200 = .ok (.iaload, 1) := by decide +kernel
theorem dL_law_201 : decode cL_law 201 = .ok (.i2l, 1) := by decide +kernel
theorem dL_law_202 : decode cL_law 202 = .ok (.ldc2_w 13, 3) := by decide +kernel
theorem dL_law_205 : decode cL_law 205 = .ok (.land, 1) := by decide +kernel
theorem dL_law_206 : decode cL_law 206 = .ok (.lor, 1) := by decide +kernel
theorem dL_law_207 : decode cL_law 207 = .ok (.invokevirtual 19, 3) := by decide +kernel
theorem dL_law_210 : decode cL_law 210 = .ok (.if_icmp .eq 822, 3) := by decide +kernel
theorem dL_law_213 : decode cL_law 213 = .ok (.iconst 0, 1) := by decide +kernel
theorem dL_law_214 : decode cL_law 214 = .ok (.ireturn, 1) := by decide +kernel
theorem dL_law_215 : decode cL_law 215 = .ok (.aload_n 1, 1) := by decide +kernel
theorem dL_law_216 : decode cL_law 216 = .ok (.aload_n 0, 1) := by decide +kernel
theorem dL_law_217 : decode cL_law 217 = .ok (.iload_n 3, 1) := by decide +kernel
theorem dL_law_218 : decode cL_law 218 = .ok (.iconst 1, 1) := by decide +kernel
theorem dL_law_219 : decode cL_law 219 = .ok (.iadd, 1) := by decide +kernel
theorem dL_law_220 : decode cL_law 220 = .ok (.iaload, 1) := by decide +kernel
theorem dL_law_221 : decode cL_law 221 = .ok (.aload_n 0, 1) := by decide +kernel
theorem dL_law_222 : decode cL_law 222 = .ok (.iload_n 3, 1) := by decide +kernel
theorem dL_law_223 : decode cL_law 223 = .ok (.iconst 2, 1) := by decide +kernel
theorem dL_law_224 : decode cL_law 224 = .ok (.iadd, 1) := by decide +kernel
theorem dL_law_225 : decode cL_law 225 = .ok (.iaload, 1) := by decide +kernel
theorem dL_law_226 : decode cL_law 226 = .ok (.aload_n 0, 1) := by decide +kernel
theorem dL_law_227 : decode cL_law 227 = .ok (.iload_n 3, 1) := by decide +kernel
theorem dL_law_228 : decode cL_law 228 = .ok (.iconst 3, 1) := by decide +kernel
theorem dL_law_229 : decode cL_law 229 = .ok (.iadd, 1) := by decide +kernel
theorem dL_law_230 : decode cL_law 230 = .ok (.iaload, 1) := by decide +kernel
theorem dL_law_231 : decode cL_law 231 = .ok (.invokevirtual 20, 3) := by decide +kernel
theorem dL_law_234 : decode cL_law 234 = .ok (.aload_n 2, 1) := by decide +kernel
theorem dL_law_235 : decode cL_law 235 = .ok (.aload_n 0, 1) := by decide +kernel
theorem dL_law_236 : decode cL_law 236 = .ok (.iload_n 3, 1) := by decide +kernel
theorem dL_law_237 : decode cL_law 237 = .ok (.iconst 1, 1) := by decide +kernel
theorem dL_law_238 : decode cL_law 238 = .ok (.iadd, 1) := by decide +kernel
theorem dL_law_239 : decode cL_law 239 = .ok (.iaload, 1) := by decide +kernel
theorem dL_law_240 : decode cL_law 240 = .ok (.aload_n 0, 1) := by decide +kernel
theorem dL_law_241 : decode cL_law 241 = .ok (.iload_n 3, 1) := by decide +kernel
theorem dL_law_242 : decode cL_law 242 = .ok (.iconst 2, 1) := by decide +kernel
theorem dL_law_243 : decode cL_law 243 = .ok (.iadd, 1) := by decide +kernel
theorem dL_law_244 : decode cL_law 244 = .ok (.iaload, 1) := by decide +kernel
theorem dL_law_245 : decode cL_law 245 = .ok (.aload_n 0, 1) := by decide +kernel
theorem dL_law_246 : decode cL_law 246 = .ok (.iload_n 3, 1) := by decide +kernel
theorem dL_law_247 : decode cL_law 247 = .ok (.iconst 3, 1) := by decide +kernel
theorem dL_law_248 : decode cL_law 248 = .ok (.iadd, 1) := by decide +kernel
theorem dL_law_249 : decode cL_law 249 = .ok (.iaload, 1) := by decide +kernel
theorem dL_law_250 : decode cL_law 250 = .ok (.invokevirtual 24, 3) := by decide +kernel
theorem dL_law_253 : decode cL_law 253 = .ok (.if_icmp .eq 779, 3) := by decide +kernel
theorem dL_law_256 : decode cL_law 256 = .ok (.iconst 0, 1) := by decide +kernel
theorem dL_law_257 : decode cL_law 257 = .ok (.ireturn, 1) := by decide +kernel
theorem dL_law_258 : decode cL_law 258 = .ok (.aload_n 1, 1) := by decide +kernel
theorem dL_law_259 : decode cL_law 259 = .ok (.aload_n 0, 1) := by decide +kernel
theorem dL_law_260 : decode cL_law 260 = .ok (.iload_n 3, 1) := by decide +kernel
theorem dL_law_261 : decode cL_law 261 = .ok (.iconst 1, 1) := by decide +kernel
theorem dL_law_262 : decode cL_law 262 = .ok (.iadd, 1) := by decide +kernel
theorem dL_law_263 : decode cL_law 263 = .ok (.iaload, 1) := by decide +kernel
theorem dL_law_264 : decode cL_law 264 = .ok (.aload_n 0, 1) := by decide +kernel
theorem dL_law_265 : decode cL_law 265 = .ok (.iload_n 3, 1) := by decide +kernel
theorem dL_law_266 : decode cL_law 266 = .ok (.iconst 2, 1) := by decide +kernel
theorem dL_law_267 : decode cL_law 267 = .ok (.iadd, 1) := by decide +kernel
theorem dL_law_268 : decode cL_law 268 = .ok (.iaload, 1) := by decide +kernel
theorem dL_law_269 : decode cL_law 269 = .ok (.aload_n 0, 1) := by decide +kernel
theorem dL_law_270 : decode cL_law 270 = .ok (.iload_n 3, 1) := by decide +kernel
theorem dL_law_271 : decode cL_law 271 = .ok (.iconst 3, 1) := by decide +kernel
theorem dL_law_272 : decode cL_law 272 = .ok (.iadd, 1) := by decide +kernel
theorem dL_law_273 : decode cL_law 273 = .ok (.iaload, 1) := by decide +kernel
theorem dL_law_274 : decode cL_law 274 = .ok (.invokevirtual 25, 3) := by decide +kernel
theorem dL_law_277 : decode cL_law 277 = .ok (.aload_n 2, 1) := by decide +kernel
theorem dL_law_278 : decode cL_law 278 = .ok (.aload_n 0, 1) := by decide +kernel
theorem dL_law_279 : decode cL_law 279 = .ok (.iload_n 3, 1) := by decide +kernel
theorem dL_law_280 : decode cL_law 280 = .ok (.iconst 1, 1) := by decide +kernel
theorem dL_law_281 : decode cL_law 281 = .ok (.iadd, 1) := by decide +kernel
theorem dL_law_282 : decode cL_law 282 = .ok (.iaload, 1) := by decide +kernel
theorem dL_law_283 : decode cL_law 283 = .ok (.aload_n 0, 1) := by decide +kernel
theorem dL_law_284 : decode cL_law 284 = .ok (.iload_n 3, 1) := by decide +kernel
theorem dL_law_285 : decode cL_law 285 = .ok (.iconst 2, 1) := by decide +kernel
theorem dL_law_286 : decode cL_law 286 = .ok (.iadd, 1) := by decide +kernel
theorem dL_law_287 : decode cL_law 287 = .ok (.iaload, 1) := by decide +kernel
theorem dL_law_288 : decode cL_law 288 = .ok (.aload_n 0, 1) := by decide +kernel
theorem dL_law_289 : decode cL_law 289 = .ok (.iload_n 3, 1) := by decide +kernel
theorem dL_law_290 : decode cL_law 290 = .ok (.iconst 3, 1) := by decide +kernel
theorem dL_law_291 : decode cL_law 291 = .ok (.iadd, 1) := by decide +kernel
theorem dL_law_292 : decode cL_law 292 = .ok (.iaload, 1) := by decide +kernel
theorem dL_law_293 : decode cL_law 293 = .ok (.invokevirtual 28, 3) := by decide +kernel
theorem dL_law_296 : decode cL_law 296 = .ok (.if_icmp .eq 736, 3) := by decide +kernel
theorem dL_law_299 : decode cL_law 299 = .ok (.iconst 0, 1) := by decide +kernel
theorem dL_law_300 : decode cL_law 300 = .ok (.ireturn, 1) := by decide +kernel
theorem dL_law_301 : decode cL_law 301 = .ok (.aload_n 1, 1) := by decide +kernel
theorem dL_law_302 : decode cL_law 302 = .ok (.aload_n 0, 1) := by decide +kernel
theorem dL_law_303 : decode cL_law 303 = .ok (.iload_n 3, 1) := by decide +kernel
theorem dL_law_304 : decode cL_law 304 = .ok (.iconst 1, 1) := by decide +kernel
theorem dL_law_305 : decode cL_law 305 = .ok (.iadd, 1) := by decide +kernel
theorem dL_law_306 : decode cL_law 306 = .ok (.iaload, 1) := by decide +kernel
theorem dL_law_307 : decode cL_law 307 = .ok (.aload_n 0, 1) := by decide +kernel
theorem dL_law_308 : decode cL_law 308 = .ok (.iload_n 3, 1) := by decide +kernel
theorem dL_law_309 : decode cL_law 309 = .ok (.iconst 2, 1) := by decide +kernel
theorem dL_law_310 : decode cL_law 310 = .ok (.iadd, 1) := by decide +kernel
theorem dL_law_311 : decode cL_law 311 = .ok (.iaload, 1) := by decide +kernel
theorem dL_law_312 : decode cL_law 312 = .ok (.aload_n 0, 1) := by decide +kernel
theorem dL_law_313 : decode cL_law 313 = .ok (.iload_n 3, 1) := by decide +kernel
theorem dL_law_314 : decode cL_law 314 = .ok (.iconst 3, 1) := by decide +kernel
theorem dL_law_315 : decode cL_law 315 = .ok (.iadd, 1) := by decide +kernel
theorem dL_law_316 : decode cL_law 316 = .ok (.iaload, 1) := by decide +kernel
theorem dL_law_317 : decode cL_law 317 = .ok (.aload_n 0, 1) := by decide +kernel
theorem dL_law_318 : decode cL_law 318 = .ok (.iload_n 3, 1) := by decide +kernel
theorem dL_law_319 : decode cL_law 319 = .ok (.iconst 4, 1) := by decide +kernel
theorem dL_law_320 : decode cL_law 320 = .ok (.iadd, 1) := by decide +kernel
theorem dL_law_321 : decode cL_law 321 = .ok (.iaload, 1) := by decide +kernel
theorem dL_law_322 : decode cL_law 322 = .ok (.invokevirtual 29, 3) := by decide +kernel
theorem dL_law_325 : decode cL_law 325 = .ok (.aload_n 2, 1) := by decide +kernel
theorem dL_law_326 : decode cL_law 326 = .ok (.aload_n 0, 1) := by decide +kernel
theorem dL_law_327 : decode cL_law 327 = .ok (.iload_n 3, 1) := by decide +kernel
theorem dL_law_328 : decode cL_law 328 = .ok (.iconst 1, 1) := by decide +kernel
theorem dL_law_329 : decode cL_law 329 = .ok (.iadd, 1) := by decide +kernel
theorem dL_law_330 : decode cL_law 330 = .ok (.iaload, 1) := by decide +kernel
theorem dL_law_331 : decode cL_law 331 = .ok (.aload_n 0, 1) := by decide +kernel
theorem dL_law_332 : decode cL_law 332 = .ok (.iload_n 3, 1) := by decide +kernel
theorem dL_law_333 : decode cL_law 333 = .ok (.iconst 2, 1) := by decide +kernel
theorem dL_law_334 : decode cL_law 334 = .ok (.iadd, 1) := by decide +kernel
theorem dL_law_335 : decode cL_law 335 = .ok (.iaload, 1) := by decide +kernel
theorem dL_law_336 : decode cL_law 336 = .ok (.aload_n 0, 1) := by decide +kernel
theorem dL_law_337 : decode cL_law 337 = .ok (.iload_n 3, 1) := by decide +kernel
theorem dL_law_338 : decode cL_law 338 = .ok (.iconst 3, 1) := by decide +kernel
theorem dL_law_339 : decode cL_law 339 = .ok (.iadd, 1) := by decide +kernel
theorem dL_law_340 : decode cL_law 340 = .ok (.iaload, 1) := by decide +kernel
theorem dL_law_341 : decode cL_law 341 = .ok (.aload_n 0, 1) := by decide +kernel
theorem dL_law_342 : decode cL_law 342 = .ok (.iload_n 3, 1) := by decide +kernel
theorem dL_law_343 : decode cL_law 343 = .ok (.iconst 4, 1) := by decide +kernel
theorem dL_law_344 : decode cL_law 344 = .ok (.iadd, 1) := by decide +kernel
theorem dL_law_345 : decode cL_law 345 = .ok (.iaload, 1) := by decide +kernel
theorem dL_law_346 : decode cL_law 346 = .ok (.invokevirtual 33, 3) := by decide +kernel
theorem dL_law_349 : decode cL_law 349 = .ok (.if_icmp .eq 683, 3) := by decide +kernel
theorem dL_law_352 : decode cL_law 352 = .ok (.iconst 0, 1) := by decide +kernel
theorem dL_law_353 : decode cL_law 353 = .ok (.ireturn, 1) := by decide +kernel
theorem dL_law_354 : decode cL_law 354 = .ok (.aload_n 1, 1) := by decide +kernel
theorem dL_law_355 : decode cL_law 355 = .ok (.invokevirtual 34, 3) := by decide +kernel
theorem dL_law_358 : decode cL_law 358 = .ok (.aload_n 2, 1) := by decide +kernel
theorem dL_law_359 : decode cL_law 359 = .ok (.invokevirtual 38, 3) := by decide +kernel
theorem dL_law_362 : decode cL_law 362 = .ok (.if_icmp .eq 670, 3) := by decide +kernel
theorem dL_law_365 : decode cL_law 365 = .ok (.iconst 0, 1) := by decide +kernel
theorem dL_law_366 : decode cL_law 366 = .ok (.ireturn, 1) := by decide +kernel
theorem dL_law_367 : decode cL_law 367 = .ok (.aload_n 1, 1) := by decide +kernel
theorem dL_law_368 : decode cL_law 368 = .ok (.aload_n 0, 1) := by decide +kernel
theorem dL_law_369 : decode cL_law 369 = .ok (.iload_n 3, 1) := by decide +kernel
theorem dL_law_370 : decode cL_law 370 = .ok (.iconst 1, 1) := by decide +kernel
theorem dL_law_371 : decode cL_law 371 = .ok (.iadd, 1) := by decide +kernel
theorem dL_law_372 : decode cL_law 372 = .ok (.iaload, 1) := by decide +kernel
theorem dL_law_373 : decode cL_law 373 = .ok (.invokevirtual 39, 3) := by decide +kernel
theorem dL_law_376 : decode cL_law 376 = .ok (.aload_n 2, 1) := by decide +kernel
theorem dL_law_377 : decode cL_law 377 = .ok (.aload_n 0, 1) := by decide +kernel
theorem dL_law_378 : decode cL_law 378 = .ok (.iload_n 3, 1) := by decide +kernel
theorem dL_law_379 : decode cL_law 379 = .ok (.iconst 1, 1) := by decide +kernel
theorem dL_law_380 : decode cL_law 380 = .ok (.iadd, 1) := by decide +kernel
theorem dL_law_381 : decode cL_law 381 = .ok (.iaload, 1) := by decide +kernel
theorem dL_law_382 : decode cL_law 382 = .ok (.invokevirtual 43, 3) := by decide +kernel
theorem dL_law_385 : decode cL_law 385 = .ok (.if_icmp .eq 647, 3) := by decide +kernel
theorem dL_law_388 : decode cL_law 388 = .ok (.iconst 0, 1) := by decide +kernel
theorem dL_law_389 : decode cL_law 389 = .ok (.ireturn, 1) := by decide +kernel
theorem dL_law_390 : decode cL_law 390 = .ok (.aload_n 1, 1) := by decide +kernel
theorem dL_law_391 : decode cL_law 391 = .ok (.aload_n 0, 1) := by decide +kernel
theorem dL_law_392 : decode cL_law 392 = .ok (.iload_n 3, 1) := by decide +kernel
theorem dL_law_393 : decode cL_law 393 = .ok (.iconst 1, 1) := by decide +kernel
theorem dL_law_394 : decode cL_law 394 = .ok (.iadd, 1) := by decide +kernel
theorem dL_law_395 : decode cL_law 395 = .ok (.iaload, 1) := by decide +kernel
theorem dL_law_396 : decode cL_law 396 = .ok (.aload_n 0, 1) := by decide +kernel
theorem dL_law_397 : decode cL_law 397 = .ok (.iload_n 3, 1) := by decide +kernel
theorem dL_law_398 : decode cL_law 398 = .ok (.iconst 2, 1) := by decide +kernel
theorem dL_law_399 : decode cL_law 399 = .ok (.iadd, 1) := by decide +kernel
theorem dL_law_400 : decode cL_law 400 = .ok (.iaload, 1) := by decide +kernel
theorem dL_law_401 : decode cL_law 401 = .ok (.invokevirtual 44, 3) := by decide +kernel
theorem dL_law_404 : decode cL_law 404 = .ok (.aload_n 2, 1) := by decide +kernel
theorem dL_law_405 : decode cL_law 405 = .ok (.aload_n 0, 1) := by decide +kernel
theorem dL_law_406 : decode cL_law 406 = .ok (.iload_n 3, 1) := by decide +kernel
theorem dL_law_407 : decode cL_law 407 = .ok (.iconst 1, 1) := by decide +kernel
theorem dL_law_408 : decode cL_law 408 = .ok (.iadd, 1) := by decide +kernel
theorem dL_law_409 : decode cL_law 409 = .ok (.iaload, 1) := by decide +kernel
theorem dL_law_410 : decode cL_law 410 = .ok (.aload_n 0, 1) := by decide +kernel
theorem dL_law_411 : decode cL_law 411 = .ok (.iload_n 3, 1) := by decide +kernel
theorem dL_law_412 : decode cL_law 412 = .ok (.iconst 2, 1) := by decide +kernel
theorem dL_law_413 : decode cL_law 413 = .ok (.iadd, 1) := by decide +kernel
theorem dL_law_414 : decode cL_law 414 = .ok (.iaload, 1) := by decide +kernel
theorem dL_law_415 : decode cL_law 415 = .ok (.invokevirtual 48, 3) := by decide +kernel
theorem dL_law_418 : decode cL_law 418 = .ok (.if_icmp .eq 614, 3) := by decide +kernel
theorem dL_law_421 : decode cL_law 421 = .ok (.iconst 0, 1) := by decide +kernel
theorem dL_law_422 : decode cL_law 422 = .ok (.ireturn, 1) := by decide +kernel
theorem dL_law_423 : decode cL_law 423 = .ok (.aload_n 1, 1) := by decide +kernel
theorem dL_law_424 : decode cL_law 424 = .ok (.aload_n 0, 1) := by decide +kernel
theorem dL_law_425 : decode cL_law 425 = .ok (.iload_n 3, 1) := by decide +kernel
theorem dL_law_426 : decode cL_law 426 = .ok (.iconst 1, 1) := by decide +kernel
theorem dL_law_427 : decode cL_law 427 = .ok (.iadd, 1) := by decide +kernel
theorem dL_law_428 : decode cL_law 428 = .ok (.iaload, 1) := by decide +kernel
theorem dL_law_429 : decode cL_law 429 = .ok (.invokevirtual 49, 3) := by decide +kernel
theorem dL_law_432 : decode cL_law 432 = .ok (.aload_n 2, 1) := by decide +kernel
theorem dL_law_433 : decode cL_law 433 = .ok (.aload_n 0, 1) := by decide +kernel
theorem dL_law_434 : decode cL_law 434 = .ok (.iload_n 3, 1) := by decide +kernel
theorem dL_law_435 : decode cL_law 435 = .ok (.iconst 1, 1) := by decide +kernel
theorem dL_law_436 : decode cL_law 436 = .ok (.iadd, 1) := by decide +kernel
theorem dL_law_437 : decode cL_law 437 = .ok (.iaload, 1) := by decide +kernel
theorem dL_law_438 : decode cL_law 438 = .ok (.invokevirtual 53, 3) := by decide +kernel
theorem dL_law_441 : decode cL_law 441 = .ok (.lcmp, 1) := by decide +kernel
theorem dL_law_442 : decode cL_law 442 = .ok (.ifCond .eq 590, 3) := by decide +kernel
theorem dL_law_445 : decode cL_law 445 = .ok (.iconst 0, 1) := by decide +kernel
theorem dL_law_446 : decode cL_law 446 = .ok (.ireturn, 1) := by decide +kernel
theorem dL_law_447 : decode cL_law 447 = .ok (.aload_n 1, 1) := by decide +kernel
theorem dL_law_448 : decode cL_law 448 = .ok (.aload_n 0, 1) := by decide +kernel
theorem dL_law_449 : decode cL_law 449 = .ok (.iload_n 3, 1) := by decide +kernel
theorem dL_law_450 : decode cL_law 450 = .ok (.iconst 1, 1) := by decide +kernel
theorem dL_law_451 : decode cL_law 451 = .ok (.iadd, 1) := by decide +kernel
theorem dL_law_452 : decode cL_law 452 = .ok (.iaload, 1) := by decide +kernel
theorem dL_law_453 : decode cL_law 453 = .ok (.aload_n 0, 1) := by decide +kernel
theorem dL_law_454 : decode cL_law 454 = .ok (.iload_n 3, 1) := by decide +kernel
theorem dL_law_455 : decode cL_law 455 = .ok (.iconst 2, 1) := by decide +kernel
theorem dL_law_456 : decode cL_law 456 = .ok (.iadd, 1) := by decide +kernel
theorem dL_law_457 : decode cL_law 457 = .ok (.iaload, 1) := by decide +kernel
theorem dL_law_458 : decode cL_law 458 = .ok (.invokevirtual 54, 3) := by decide +kernel
theorem dL_law_461 : decode cL_law 461 = .ok (.aload_n 2, 1) := by decide +kernel
theorem dL_law_462 : decode cL_law 462 = .ok (.aload_n 0, 1) := by decide +kernel
theorem dL_law_463 : decode cL_law 463 = .ok (.iload_n 3, 1) := by decide +kernel
theorem dL_law_464 : decode cL_law 464 = .ok (.iconst 1, 1) := by decide +kernel
theorem dL_law_465 : decode cL_law 465 = .ok (.iadd, 1) := by decide +kernel
theorem dL_law_466 : decode cL_law 466 = .ok (.iaload, 1) := by decide +kernel
theorem dL_law_467 : decode cL_law 467 = .ok (.aload_n 0, 1) := by decide +kernel
theorem dL_law_468 : decode cL_law 468 = .ok (.iload_n 3, 1) := by decide +kernel
theorem dL_law_469 : decode cL_law 469 = .ok (.iconst 2, 1) := by decide +kernel
theorem dL_law_470 : decode cL_law 470 = .ok (.iadd, 1) := by decide +kernel
theorem dL_law_471 : decode cL_law 471 = .ok (.iaload, 1) := by decide +kernel
theorem dL_law_472 : decode cL_law 472 = .ok (.invokevirtual 57, 3) := by decide +kernel
theorem dL_law_475 : decode cL_law 475 = .ok (.if_icmp .eq 557, 3) := by decide +kernel
theorem dL_law_478 : decode cL_law 478 = .ok (.iconst 0, 1) := by decide +kernel
theorem dL_law_479 : decode cL_law 479 = .ok (.ireturn, 1) := by decide +kernel
theorem dL_law_480 : decode cL_law 480 = .ok (.aload_n 1, 1) := by decide +kernel
theorem dL_law_481 : decode cL_law 481 = .ok (.aload_n 0, 1) := by decide +kernel
theorem dL_law_482 : decode cL_law 482 = .ok (.iload_n 3, 1) := by decide +kernel
theorem dL_law_483 : decode cL_law 483 = .ok (.iconst 1, 1) := by decide +kernel
theorem dL_law_484 : decode cL_law 484 = .ok (.iadd, 1) := by decide +kernel
theorem dL_law_485 : decode cL_law 485 = .ok (.iaload, 1) := by decide +kernel
theorem dL_law_486 : decode cL_law 486 = .ok (.aload_n 0, 1) := by decide +kernel
theorem dL_law_487 : decode cL_law 487 = .ok (.iload_n 3, 1) := by decide +kernel
theorem dL_law_488 : decode cL_law 488 = .ok (.iconst 2, 1) := by decide +kernel
theorem dL_law_489 : decode cL_law 489 = .ok (.iadd, 1) := by decide +kernel
theorem dL_law_490 : decode cL_law 490 = .ok (.iaload, 1) := by decide +kernel
theorem dL_law_491 : decode cL_law 491 = .ok (.invokevirtual 58, 3) := by decide +kernel
theorem dL_law_494 : decode cL_law 494 = .ok (.aload_n 2, 1) := by decide +kernel
theorem dL_law_495 : decode cL_law 495 = .ok (.aload_n 0, 1) := by decide +kernel
theorem dL_law_496 : decode cL_law 496 = .ok (.iload_n 3, 1) := by decide +kernel
theorem dL_law_497 : decode cL_law 497 = .ok (.iconst 1, 1) := by decide +kernel
theorem dL_law_498 : decode cL_law 498 = .ok (.iadd, 1) := by decide +kernel
theorem dL_law_499 : decode cL_law 499 = .ok (.iaload, 1) := by decide +kernel
theorem dL_law_500 : decode cL_law 500 = .ok (.aload_n 0, 1) := by decide +kernel
theorem dL_law_501 : decode cL_law 501 = .ok (.iload_n 3, 1) := by decide +kernel
theorem dL_law_502 : decode cL_law 502 = .ok (.iconst 2, 1) := by decide +kernel
theorem dL_law_503 : decode cL_law 503 = .ok (.iadd, 1) := by decide +kernel
theorem dL_law_504 : decode cL_law 504 = .ok (.iaload, 1) := by decide +kernel
theorem dL_law_505 : decode cL_law 505 = .ok (.invokevirtual 61, 3) := by decide +kernel
theorem dL_law_508 : decode cL_law 508 = .ok (.if_icmp .eq 524, 3) := by decide +kernel
theorem dL_law_511 : decode cL_law 511 = .ok (.iconst 0, 1) := by decide +kernel
theorem dL_law_512 : decode cL_law 512 = .ok (.ireturn, 1) := by decide +kernel
theorem dL_law_513 : decode cL_law 513 = .ok (.aload_n 1, 1) := by decide +kernel
theorem dL_law_514 : decode cL_law 514 = .ok (.aload_n 0, 1) := by decide +kernel
theorem dL_law_515 : decode cL_law 515 = .ok (.iload_n 3, 1) := by decide +kernel
theorem dL_law_516 : decode cL_law 516 = .ok (.iconst 1, 1) := by decide +kernel
theorem dL_law_517 : decode cL_law 517 = .ok (.iadd, 1) := by decide +kernel
theorem dL_law_518 : decode cL_law 518 = .ok (.iaload, 1) := by decide +kernel
theorem dL_law_519 : decode cL_law 519 = .ok (.aload_n 0, 1) := by decide +kernel
theorem dL_law_520 : decode cL_law 520 = .ok (.iload_n 3, 1) := by decide +kernel
theorem dL_law_521 : decode cL_law 521 = .ok (.iconst 2, 1) := by decide +kernel
theorem dL_law_522 : decode cL_law 522 = .ok (.iadd, 1) := by decide +kernel
theorem dL_law_523 : decode cL_law 523 = .ok (.iaload, 1) := by decide +kernel
theorem dL_law_524 : decode cL_law 524 = .ok (.invokevirtual 62, 3) := by decide +kernel
theorem dL_law_527 : decode cL_law 527 = .ok (.aload_n 2, 1) := by decide +kernel
theorem dL_law_528 : decode cL_law 528 = .ok (.aload_n 0, 1) := by decide +kernel
theorem dL_law_529 : decode cL_law 529 = .ok (.iload_n 3, 1) := by decide +kernel
theorem dL_law_530 : decode cL_law 530 = .ok (.iconst 1, 1) := by decide +kernel
theorem dL_law_531 : decode cL_law 531 = .ok (.iadd, 1) := by decide +kernel
theorem dL_law_532 : decode cL_law 532 = .ok (.iaload, 1) := by decide +kernel
theorem dL_law_533 : decode cL_law 533 = .ok (.aload_n 0, 1) := by decide +kernel
theorem dL_law_534 : decode cL_law 534 = .ok (.iload_n 3, 1) := by decide +kernel
theorem dL_law_535 : decode cL_law 535 = .ok (.iconst 2, 1) := by decide +kernel
theorem dL_law_536 : decode cL_law 536 = .ok (.iadd, 1) := by decide +kernel
theorem dL_law_537 : decode cL_law 537 = .ok (.iaload, 1) := by decide +kernel
theorem dL_law_538 : decode cL_law 538 = .ok (.invokevirtual 65, 3) := by decide +kernel
theorem dL_law_541 : decode cL_law 541 = .ok (.if_icmp .eq 491, 3) := by decide +kernel
theorem dL_law_544 : decode cL_law 544 = .ok (.iconst 0, 1) := by decide +kernel
theorem dL_law_545 : decode cL_law 545 = .ok (.ireturn, 1) := by decide +kernel
theorem dL_law_546 : decode cL_law 546 = .ok (.aload_n 1, 1) := by decide +kernel
theorem dL_law_547 : decode cL_law 547 = .ok (.aload_n 0, 1) := by decide +kernel
theorem dL_law_548 : decode cL_law 548 = .ok (.iload_n 3, 1) := by decide +kernel
theorem dL_law_549 : decode cL_law 549 = .ok (.iconst 1, 1) := by decide +kernel
theorem dL_law_550 : decode cL_law 550 = .ok (.iadd, 1) := by decide +kernel
theorem dL_law_551 : decode cL_law 551 = .ok (.iaload, 1) := by decide +kernel
theorem dL_law_552 : decode cL_law 552 = .ok (.invokevirtual 66, 3) := by decide +kernel
theorem dL_law_555 : decode cL_law 555 = .ok (.aload_n 2, 1) := by decide +kernel
theorem dL_law_556 : decode cL_law 556 = .ok (.aload_n 0, 1) := by decide +kernel
theorem dL_law_557 : decode cL_law 557 = .ok (.iload_n 3, 1) := by decide +kernel
theorem dL_law_558 : decode cL_law 558 = .ok (.iconst 1, 1) := by decide +kernel
theorem dL_law_559 : decode cL_law 559 = .ok (.iadd, 1) := by decide +kernel
theorem dL_law_560 : decode cL_law 560 = .ok (.iaload, 1) := by decide +kernel
theorem dL_law_561 : decode cL_law 561 = .ok (.invokevirtual 69, 3) := by decide +kernel
theorem dL_law_564 : decode cL_law 564 = .ok (.lcmp, 1) := by decide +kernel
theorem dL_law_565 : decode cL_law 565 = .ok (.ifCond .eq 467, 3) := by decide +kernel
theorem dL_law_568 : decode cL_law 568 = .ok (.iconst 0, 1) := by decide +kernel
theorem dL_law_569 : decode cL_law 569 = .ok (.ireturn, 1) := by decide +kernel
theorem dL_law_570 : decode cL_law 570 = .ok (.aload_n 1, 1) := by decide +kernel
theorem dL_law_571 : decode cL_law 571 = .ok (.aload_n 0, 1) := by decide +kernel
theorem dL_law_572 : decode cL_law 572 = .ok (.iload_n 3, 1) := by decide +kernel
theorem dL_law_573 : decode cL_law 573 = .ok (.iconst 1, 1) := by decide +kernel
theorem dL_law_574 : decode cL_law 574 = .ok (.iadd, 1) := by decide +kernel
theorem dL_law_575 : decode cL_law 575 = .ok (.iaload, 1) := by decide +kernel
theorem dL_law_576 : decode cL_law 576 = .ok (.aload_n 0, 1) := by decide +kernel
theorem dL_law_577 : decode cL_law 577 = .ok (.iload_n 3, 1) := by decide +kernel
theorem dL_law_578 : decode cL_law 578 = .ok (.iconst 2, 1) := by decide +kernel
theorem dL_law_579 : decode cL_law 579 = .ok (.iadd, 1) := by decide +kernel
theorem dL_law_580 : decode cL_law 580 = .ok (.iaload, 1) := by decide +kernel
theorem dL_law_581 : decode cL_law 581 = .ok (.invokevirtual 70, 3) := by decide +kernel
theorem dL_law_584 : decode cL_law 584 = .ok (.aload_n 2, 1) := by decide +kernel
theorem dL_law_585 : decode cL_law 585 = .ok (.aload_n 0, 1) := by decide +kernel
theorem dL_law_586 : decode cL_law 586 = .ok (.iload_n 3, 1) := by decide +kernel
theorem dL_law_587 : decode cL_law 587 = .ok (.iconst 1, 1) := by decide +kernel
theorem dL_law_588 : decode cL_law 588 = .ok (.iadd, 1) := by decide +kernel
theorem dL_law_589 : decode cL_law 589 = .ok (.iaload, 1) := by decide +kernel
theorem dL_law_590 : decode cL_law 590 = .ok (.aload_n 0, 1) := by decide +kernel
theorem dL_law_591 : decode cL_law 591 = .ok (.iload_n 3, 1) := by decide +kernel
theorem dL_law_592 : decode cL_law 592 = .ok (.iconst 2, 1) := by decide +kernel
theorem dL_law_593 : decode cL_law 593 = .ok (.iadd, 1) := by decide +kernel
theorem dL_law_594 : decode cL_law 594 = .ok (.iaload, 1) := by decide +kernel
theorem dL_law_595 : decode cL_law 595 = .ok (.invokevirtual 73, 3) := by decide +kernel
theorem dL_law_598 : decode cL_law 598 = .ok (.if_icmp .eq 434, 3) := by decide +kernel
theorem dL_law_601 : decode cL_law 601 = .ok (.iconst 0, 1) := by decide +kernel
theorem dL_law_602 : decode cL_law 602 = .ok (.ireturn, 1) := by decide +kernel
theorem dL_law_603 : decode cL_law 603 = .ok (.aload_n 1, 1) := by decide +kernel
theorem dL_law_604 : decode cL_law 604 = .ok (.aload_n 0, 1) := by decide +kernel
theorem dL_law_605 : decode cL_law 605 = .ok (.iload_n 3, 1) := by decide +kernel
theorem dL_law_606 : decode cL_law 606 = .ok (.iconst 1, 1) := by decide +kernel
theorem dL_law_607 : decode cL_law 607 = .ok (.iadd, 1) := by decide +kernel
theorem dL_law_608 : decode cL_law 608 = .ok (.iaload, 1) := by decide +kernel
theorem dL_law_609 : decode cL_law 609 = .ok (.aload_n 0, 1) := by decide +kernel
theorem dL_law_610 : decode cL_law 610 = .ok (.iload_n 3, 1) := by decide +kernel
theorem dL_law_611 : decode cL_law 611 = .ok (.iconst 2, 1) := by decide +kernel
theorem dL_law_612 : decode cL_law 612 = .ok (.iadd, 1) := by decide +kernel
theorem dL_law_613 : decode cL_law 613 = .ok (.iaload, 1) := by decide +kernel
theorem dL_law_614 : decode cL_law 614 = .ok (.invokevirtual 74, 3) := by decide +kernel
theorem dL_law_617 : decode cL_law 617 = .ok (.aload_n 2, 1) := by decide +kernel
theorem dL_law_618 : decode cL_law 618 = .ok (.aload_n 0, 1) := by decide +kernel
theorem dL_law_619 : decode cL_law 619 = .ok (.iload_n 3, 1) := by decide +kernel
theorem dL_law_620 : decode cL_law 620 = .ok (.iconst 1, 1) := by decide +kernel
theorem dL_law_621 : decode cL_law 621 = .ok (.iadd, 1) := by decide +kernel
theorem dL_law_622 : decode cL_law 622 = .ok (.iaload, 1) := by decide +kernel
theorem dL_law_623 : decode cL_law 623 = .ok (.aload_n 0, 1) := by decide +kernel
theorem dL_law_624 : decode cL_law 624 = .ok (.iload_n 3, 1) := by decide +kernel
theorem dL_law_625 : decode cL_law 625 = .ok (.iconst 2, 1) := by decide +kernel
theorem dL_law_626 : decode cL_law 626 = .ok (.iadd, 1) := by decide +kernel
theorem dL_law_627 : decode cL_law 627 = .ok (.iaload, 1) := by decide +kernel
theorem dL_law_628 : decode cL_law 628 = .ok (.invokevirtual 77, 3) := by decide +kernel
theorem dL_law_631 : decode cL_law 631 = .ok (.if_icmp .eq 401, 3) := by decide +kernel
theorem dL_law_634 : decode cL_law 634 = .ok (.iconst 0, 1) := by decide +kernel
theorem dL_law_635 : decode cL_law 635 = .ok (.ireturn, 1) := by decide +kernel
theorem dL_law_636 : decode cL_law 636 = .ok (.aload_n 1, 1) := by decide +kernel
theorem dL_law_637 : decode cL_law 637 = .ok (.aload_n 0, 1) := by decide +kernel
theorem dL_law_638 : decode cL_law 638 = .ok (.iload_n 3, 1) := by decide +kernel
theorem dL_law_639 : decode cL_law 639 = .ok (.iconst 1, 1) := by decide +kernel
theorem dL_law_640 : decode cL_law 640 = .ok (.iadd, 1) := by decide +kernel
theorem dL_law_641 : decode cL_law 641 = .ok (.iaload, 1) := by decide +kernel
theorem dL_law_642 : decode cL_law 642 = .ok (.aload_n 0, 1) := by decide +kernel
theorem dL_law_643 : decode cL_law 643 = .ok (.iload_n 3, 1) := by decide +kernel
theorem dL_law_644 : decode cL_law 644 = .ok (.iconst 2, 1) := by decide +kernel
theorem dL_law_645 : decode cL_law 645 = .ok (.iadd, 1) := by decide +kernel
theorem dL_law_646 : decode cL_law 646 = .ok (.iaload, 1) := by decide +kernel
theorem dL_law_647 : decode cL_law 647 = .ok (.invokevirtual 78, 3) := by decide +kernel
theorem dL_law_650 : decode cL_law 650 = .ok (.aload_n 2, 1) := by decide +kernel
theorem dL_law_651 : decode cL_law 651 = .ok (.aload_n 0, 1) := by decide +kernel
theorem dL_law_652 : decode cL_law 652 = .ok (.iload_n 3, 1) := by decide +kernel
theorem dL_law_653 : decode cL_law 653 = .ok (.iconst 1, 1) := by decide +kernel
theorem dL_law_654 : decode cL_law 654 = .ok (.iadd, 1) := by decide +kernel
theorem dL_law_655 : decode cL_law 655 = .ok (.iaload, 1) := by decide +kernel
theorem dL_law_656 : decode cL_law 656 = .ok (.aload_n 0, 1) := by decide +kernel
theorem dL_law_657 : decode cL_law 657 = .ok (.iload_n 3, 1) := by decide +kernel
theorem dL_law_658 : decode cL_law 658 = .ok (.iconst 2, 1) := by decide +kernel
theorem dL_law_659 : decode cL_law 659 = .ok (.iadd, 1) := by decide +kernel
theorem dL_law_660 : decode cL_law 660 = .ok (.iaload, 1) := by decide +kernel
theorem dL_law_661 : decode cL_law 661 = .ok (.invokevirtual 81, 3) := by decide +kernel
theorem dL_law_664 : decode cL_law 664 = .ok (.if_icmp .eq 368, 3) := by decide +kernel
theorem dL_law_667 : decode cL_law 667 = .ok (.iconst 0, 1) := by decide +kernel
theorem dL_law_668 : decode cL_law 668 = .ok (.ireturn, 1) := by decide +kernel
theorem dL_law_669 : decode cL_law 669 = .ok (.aload_n 1, 1) := by decide +kernel
theorem dL_law_670 : decode cL_law 670 = .ok (.aload_n 0, 1) := by decide +kernel
theorem dL_law_671 : decode cL_law 671 = .ok (.iload_n 3, 1) := by decide +kernel
theorem dL_law_672 : decode cL_law 672 = .ok (.iconst 1, 1) := by decide +kernel
theorem dL_law_673 : decode cL_law 673 = .ok (.iadd, 1) := by decide +kernel
theorem dL_law_674 : decode cL_law 674 = .ok (.iaload, 1) := by decide +kernel
theorem dL_law_675 : decode cL_law 675 = .ok (.aload_n 0, 1) := by decide +kernel
theorem dL_law_676 : decode cL_law 676 = .ok (.iload_n 3, 1) := by decide +kernel
theorem dL_law_677 : decode cL_law 677 = .ok (.iconst 2, 1) := by decide +kernel
theorem dL_law_678 : decode cL_law 678 = .ok (.iadd, 1) := by decide +kernel
theorem dL_law_679 : decode cL_law 679 = .ok (.iaload, 1) := by decide +kernel
theorem dL_law_680 : decode cL_law 680 = .ok (.invokevirtual 82, 3) := by decide +kernel
theorem dL_law_683 : decode cL_law 683 = .ok (.aload_n 2, 1) := by decide +kernel
theorem dL_law_684 : decode cL_law 684 = .ok (.aload_n 0, 1) := by decide +kernel
theorem dL_law_685 : decode cL_law 685 = .ok (.iload_n 3, 1) := by decide +kernel
theorem dL_law_686 : decode cL_law 686 = .ok (.iconst 1, 1) := by decide +kernel
theorem dL_law_687 : decode cL_law 687 = .ok (.iadd, 1) := by decide +kernel
theorem dL_law_688 : decode cL_law 688 = .ok (.iaload, 1) := by decide +kernel
theorem dL_law_689 : decode cL_law 689 = .ok (.aload_n 0, 1) := by decide +kernel
theorem dL_law_690 : decode cL_law 690 = .ok (.iload_n 3, 1) := by decide +kernel
theorem dL_law_691 : decode cL_law 691 = .ok (.iconst 2, 1) := by decide +kernel
theorem dL_law_692 : decode cL_law 692 = .ok (.iadd, 1) := by decide +kernel
theorem dL_law_693 : decode cL_law 693 = .ok (.iaload, 1) := by decide +kernel
theorem dL_law_694 : decode cL_law 694 = .ok (.invokevirtual 85, 3) := by decide +kernel
theorem dL_law_697 : decode cL_law 697 = .ok (.if_icmp .eq 335, 3) := by decide +kernel
theorem dL_law_700 : decode cL_law 700 = .ok (.iconst 0, 1) := by decide +kernel
theorem dL_law_701 : decode cL_law 701 = .ok (.ireturn, 1) := by decide +kernel
theorem dL_law_702 : decode cL_law 702 = .ok (.aload_n 1, 1) := by decide +kernel
theorem dL_law_703 : decode cL_law 703 = .ok (.aload_n 0, 1) := by decide +kernel
theorem dL_law_704 : decode cL_law 704 = .ok (.iload_n 3, 1) := by decide +kernel
theorem dL_law_705 : decode cL_law 705 = .ok (.iconst 1, 1) := by decide +kernel
theorem dL_law_706 : decode cL_law 706 = .ok (.iadd, 1) := by decide +kernel
theorem dL_law_707 : decode cL_law 707 = .ok (.iaload, 1) := by decide +kernel
theorem dL_law_708 : decode cL_law 708 = .ok (.aload_n 0, 1) := by decide +kernel
theorem dL_law_709 : decode cL_law 709 = .ok (.iload_n 3, 1) := by decide +kernel
theorem dL_law_710 : decode cL_law 710 = .ok (.iconst 2, 1) := by decide +kernel
theorem dL_law_711 : decode cL_law 711 = .ok (.iadd, 1) := by decide +kernel
theorem dL_law_712 : decode cL_law 712 = .ok (.iaload, 1) := by decide +kernel
theorem dL_law_713 : decode cL_law 713 = .ok (.invokevirtual 86, 3) := by decide +kernel
theorem dL_law_716 : decode cL_law 716 = .ok (.aload_n 2, 1) := by decide +kernel
theorem dL_law_717 : decode cL_law 717 = .ok (.aload_n 0, 1) := by decide +kernel
theorem dL_law_718 : decode cL_law 718 = .ok (.iload_n 3, 1) := by decide +kernel
theorem dL_law_719 : decode cL_law 719 = .ok (.iconst 1, 1) := by decide +kernel
theorem dL_law_720 : decode cL_law 720 = .ok (.iadd, 1) := by decide +kernel
theorem dL_law_721 : decode cL_law 721 = .ok (.iaload, 1) := by decide +kernel
theorem dL_law_722 : decode cL_law 722 = .ok (.aload_n 0, 1) := by decide +kernel
theorem dL_law_723 : decode cL_law 723 = .ok (.iload_n 3, 1) := by decide +kernel
theorem dL_law_724 : decode cL_law 724 = .ok (.iconst 2, 1) := by decide +kernel
theorem dL_law_725 : decode cL_law 725 = .ok (.iadd, 1) := by decide +kernel
theorem dL_law_726 : decode cL_law 726 = .ok (.iaload, 1) := by decide +kernel
theorem dL_law_727 : decode cL_law 727 = .ok (.invokevirtual 89, 3) := by decide +kernel
theorem dL_law_730 : decode cL_law 730 = .ok (.if_icmp .eq 302, 3) := by decide +kernel
theorem dL_law_733 : decode cL_law 733 = .ok (.iconst 0, 1) := by decide +kernel
theorem dL_law_734 : decode cL_law 734 = .ok (.ireturn, 1) := by decide +kernel
theorem dL_law_735 : decode cL_law 735 = .ok (.aload_n 1, 1) := by decide +kernel
theorem dL_law_736 : decode cL_law 736 = .ok (.aload_n 0, 1) := by decide +kernel
theorem dL_law_737 : decode cL_law 737 = .ok (.iload_n 3, 1) := by decide +kernel
theorem dL_law_738 : decode cL_law 738 = .ok (.iconst 1, 1) := by decide +kernel
theorem dL_law_739 : decode cL_law 739 = .ok (.iadd, 1) := by decide +kernel
theorem dL_law_740 : decode cL_law 740 = .ok (.iaload, 1) := by decide +kernel
theorem dL_law_741 : decode cL_law 741 = .ok (.aload_n 0, 1) := by decide +kernel
theorem dL_law_742 : decode cL_law 742 = .ok (.iload_n 3, 1) := by decide +kernel
theorem dL_law_743 : decode cL_law 743 = .ok (.iconst 2, 1) := by decide +kernel
theorem dL_law_744 : decode cL_law 744 = .ok (.iadd, 1) := by decide +kernel
theorem dL_law_745 : decode cL_law 745 = .ok (.iaload, 1) := by decide +kernel
theorem dL_law_746 : decode cL_law 746 = .ok (.aload_n 0, 1) := by decide +kernel
theorem dL_law_747 : decode cL_law 747 = .ok (.iload_n 3, 1) := by decide +kernel
theorem dL_law_748 : decode cL_law 748 = .ok (.iconst 3, 1) := by decide +kernel
theorem dL_law_749 : decode cL_law 749 = .ok (.iadd, 1) := by decide +kernel
theorem dL_law_750 : decode cL_law 750 = .ok (.iaload, 1) := by decide +kernel
theorem dL_law_751 : decode cL_law 751 = .ok (.aload_n 0, 1) := by decide +kernel
theorem dL_law_752 : decode cL_law 752 = .ok (.iload_n 3, 1) := by decide +kernel
theorem dL_law_753 : decode cL_law 753 = .ok (.iconst 4, 1) := by decide +kernel
theorem dL_law_754 : decode cL_law 754 = .ok (.iadd, 1) := by decide +kernel
theorem dL_law_755 : decode cL_law 755 = .ok (.iaload, 1) := by decide +kernel
theorem dL_law_756 : decode cL_law 756 = .ok (.invokevirtual 90, 3) := by decide +kernel
theorem dL_law_759 : decode cL_law 759 = .ok (.aload_n 2, 1) := by decide +kernel
theorem dL_law_760 : decode cL_law 760 = .ok (.aload_n 0, 1) := by decide +kernel
theorem dL_law_761 : decode cL_law 761 = .ok (.iload_n 3, 1) := by decide +kernel
theorem dL_law_762 : decode cL_law 762 = .ok (.iconst 1, 1) := by decide +kernel
theorem dL_law_763 : decode cL_law 763 = .ok (.iadd, 1) := by decide +kernel
theorem dL_law_764 : decode cL_law 764 = .ok (.iaload, 1) := by decide +kernel
theorem dL_law_765 : decode cL_law 765 = .ok (.aload_n 0, 1) := by decide +kernel
theorem dL_law_766 : decode cL_law 766 = .ok (.iload_n 3, 1) := by decide +kernel
theorem dL_law_767 : decode cL_law 767 = .ok (.iconst 2, 1) := by decide +kernel
theorem dL_law_768 : decode cL_law 768 = .ok (.iadd, 1) := by decide +kernel
theorem dL_law_769 : decode cL_law 769 = .ok (.iaload, 1) := by decide +kernel
theorem dL_law_770 : decode cL_law 770 = .ok (.aload_n 0, 1) := by decide +kernel
theorem dL_law_771 : decode cL_law 771 = .ok (.iload_n 3, 1) := by decide +kernel
theorem dL_law_772 : decode cL_law 772 = .ok (.iconst 3, 1) := by decide +kernel
theorem dL_law_773 : decode cL_law 773 = .ok (.iadd, 1) := by decide +kernel
theorem dL_law_774 : decode cL_law 774 = .ok (.iaload, 1) := by decide +kernel
theorem dL_law_775 : decode cL_law 775 = .ok (.aload_n 0, 1) := by decide +kernel
theorem dL_law_776 : decode cL_law 776 = .ok (.iload_n 3, 1) := by decide +kernel
theorem dL_law_777 : decode cL_law 777 = .ok (.iconst 4, 1) := by decide +kernel
theorem dL_law_778 : decode cL_law 778 = .ok (.iadd, 1) := by decide +kernel
theorem dL_law_779 : decode cL_law 779 = .ok (.iaload, 1) := by decide +kernel
theorem dL_law_780 : decode cL_law 780 = .ok (.invokevirtual 93, 3) := by decide +kernel
theorem dL_law_783 : decode cL_law 783 = .ok (.if_icmp .eq 249, 3) := by decide +kernel
theorem dL_law_786 : decode cL_law 786 = .ok (.iconst 0, 1) := by decide +kernel
theorem dL_law_787 : decode cL_law 787 = .ok (.ireturn, 1) := by decide +kernel
theorem dL_law_788 : decode cL_law 788 = .ok (.aload_n 1, 1) := by decide +kernel
theorem dL_law_789 : decode cL_law 789 = .ok (.aload_n 0, 1) := by decide +kernel
theorem dL_law_790 : decode cL_law 790 = .ok (.iload_n 3, 1) := by decide +kernel
theorem dL_law_791 : decode cL_law 791 = .ok (.iconst 1, 1) := by decide +kernel
theorem dL_law_792 : decode cL_law 792 = .ok (.iadd, 1) := by decide +kernel
theorem dL_law_793 : decode cL_law 793 = .ok (.iaload, 1) := by decide +kernel
theorem dL_law_794 : decode cL_law 794 = .ok (.aload_n 0, 1) := by decide +kernel
theorem dL_law_795 : decode cL_law 795 = .ok (.iload_n 3, 1) := by decide +kernel
theorem dL_law_796 : decode cL_law 796 = .ok (.iconst 2, 1) := by decide +kernel
theorem dL_law_797 : decode cL_law 797 = .ok (.iadd, 1) := by decide +kernel
theorem dL_law_798 : decode cL_law 798 = .ok (.iaload, 1) := by decide +kernel
theorem dL_law_799 : decode cL_law 799 = .ok (.invokevirtual 94, 3) := by decide +kernel
theorem dL_law_802 : decode cL_law 802 = .ok (.aload_n 2, 1) := by decide +kernel
theorem dL_law_803 : decode cL_law 803 = .ok (.aload_n 0, 1) := by decide +kernel
theorem dL_law_804 : decode cL_law 804 = .ok (.iload_n 3, 1) := by decide +kernel
theorem dL_law_805 : decode cL_law 805 = .ok (.iconst 1, 1) := by decide +kernel
theorem dL_law_806 : decode cL_law 806 = .ok (.iadd, 1) := by decide +kernel
theorem dL_law_807 : decode cL_law 807 = .ok (.iaload, 1) := by decide +kernel
theorem dL_law_808 : decode cL_law 808 = .ok (.aload_n 0, 1) := by decide +kernel
theorem dL_law_809 : decode cL_law 809 = .ok (.iload_n 3, 1) := by decide +kernel
theorem dL_law_810 : decode cL_law 810 = .ok (.iconst 2, 1) := by decide +kernel
theorem dL_law_811 : decode cL_law 811 = .ok (.iadd, 1) := by decide +kernel
theorem dL_law_812 : decode cL_law 812 = .ok (.iaload, 1) := by decide +kernel
theorem dL_law_813 : decode cL_law 813 = .ok (.invokevirtual 97, 3) := by decide +kernel
theorem dL_law_816 : decode cL_law 816 = .ok (.if_icmp .eq 216, 3) := by decide +kernel
theorem dL_law_819 : decode cL_law 819 = .ok (.iconst 0, 1) := by decide +kernel
theorem dL_law_820 : decode cL_law 820 = .ok (.ireturn, 1) := by decide +kernel
theorem dL_law_821 : decode cL_law 821 = .ok (.aload_n 1, 1) := by decide +kernel
theorem dL_law_822 : decode cL_law 822 = .ok (.aload_n 0, 1) := by decide +kernel
theorem dL_law_823 : decode cL_law 823 = .ok (.iload_n 3, 1) := by decide +kernel
theorem dL_law_824 : decode cL_law 824 = .ok (.iconst 1, 1) := by decide +kernel
theorem dL_law_825 : decode cL_law 825 = .ok (.iadd, 1) := by decide +kernel
theorem dL_law_826 : decode cL_law 826 = .ok (.iaload, 1) := by decide +kernel
theorem dL_law_827 : decode cL_law 827 = .ok (.invokevirtual 98, 3) := by decide +kernel
theorem dL_law_830 : decode cL_law 830 = .ok (.aload_n 2, 1) := by decide +kernel
theorem dL_law_831 : decode cL_law 831 = .ok (.aload_n 0, 1) := by decide +kernel
theorem dL_law_832 : decode cL_law 832 = .ok (.iload_n 3, 1) := by decide +kernel
theorem dL_law_833 : decode cL_law 833 = .ok (.iconst 1, 1) := by decide +kernel
theorem dL_law_834 : decode cL_law 834 = .ok (.iadd, 1) := by decide +kernel
theorem dL_law_835 : decode cL_law 835 = .ok (.iaload, 1) := by decide +kernel
theorem dL_law_836 : decode cL_law 836 = .ok (.invokevirtual 101, 3) := by decide +kernel
theorem dL_law_839 : decode cL_law 839 = .ok (.if_icmp .eq 193, 3) := by decide +kernel
theorem dL_law_842 : decode cL_law 842 = .ok (.iconst 0, 1) := by decide +kernel
theorem dL_law_843 : decode cL_law 843 = .ok (.ireturn, 1) := by decide +kernel
theorem dL_law_844 : decode cL_law 844 = .ok (.aload_n 1, 1) := by decide +kernel
theorem dL_law_845 : decode cL_law 845 = .ok (.aload_n 0, 1) := by decide +kernel
theorem dL_law_846 : decode cL_law 846 = .ok (.iload_n 3, 1) := by decide +kernel
theorem dL_law_847 : decode cL_law 847 = .ok (.iconst 1, 1) := by decide +kernel
theorem dL_law_848 : decode cL_law 848 = .ok (.iadd, 1) := by decide +kernel
theorem dL_law_849 : decode cL_law 849 = .ok (.iaload, 1) := by decide +kernel
theorem dL_law_850 : decode cL_law 850 = .ok (.invokevirtual 102, 3) := by decide +kernel
theorem dL_law_853 : decode cL_law 853 = .ok (.aload_n 2, 1) := by decide +kernel
theorem dL_law_854 : decode cL_law 854 = .ok (.aload_n 0, 1) := by decide +kernel
theorem dL_law_855 : decode cL_law 855 = .ok (.iload_n 3, 1) := by decide +kernel
theorem dL_law_856 : decode cL_law 856 = .ok (.iconst 1, 1) := by decide +kernel
theorem dL_law_857 : decode cL_law 857 = .ok (.iadd, 1) := by decide +kernel
theorem dL_law_858 : decode cL_law 858 = .ok (.iaload, 1) := by decide +kernel
theorem dL_law_859 : decode cL_law 859 = .ok (.invokevirtual 105, 3) := by decide +kernel
theorem dL_law_862 : decode cL_law 862 = .ok (.if_icmp .eq 170, 3) := by decide +kernel
theorem dL_law_865 : decode cL_law 865 = .ok (.iconst 0, 1) := by decide +kernel
theorem dL_law_866 : decode cL_law 866 = .ok (.ireturn, 1) := by decide +kernel
theorem dL_law_867 : decode cL_law 867 = .ok (.aload_n 1, 1) := by decide +kernel
theorem dL_law_868 : decode cL_law 868 = .ok (.aload_n 0, 1) := by decide +kernel
theorem dL_law_869 : decode cL_law 869 = .ok (.iload_n 3, 1) := by decide +kernel
theorem dL_law_870 : decode cL_law 870 = .ok (.iconst 1, 1) := by decide +kernel
theorem dL_law_871 : decode cL_law 871 = .ok (.iadd, 1) := by decide +kernel
theorem dL_law_872 : decode cL_law 872 = .ok (.iaload, 1) := by decide +kernel
theorem dL_law_873 : decode cL_law 873 = .ok (.aload_n 0, 1) := by decide +kernel
theorem dL_law_874 : decode cL_law 874 = .ok (.iload_n 3, 1) := by decide +kernel
theorem dL_law_875 : decode cL_law 875 = .ok (.iconst 2, 1) := by decide +kernel
theorem dL_law_876 : decode cL_law 876 = .ok (.iadd, 1) := by decide +kernel
theorem dL_law_877 : decode cL_law 877 = .ok (.iaload, 1) := by decide +kernel
theorem dL_law_878 : decode cL_law 878 = .ok (.invokevirtual 106, 3) := by decide +kernel
theorem dL_law_881 : decode cL_law 881 = .ok (.aload_n 2, 1) := by decide +kernel
theorem dL_law_882 : decode cL_law 882 = .ok (.aload_n 0, 1) := by decide +kernel
theorem dL_law_883 : decode cL_law 883 = .ok (.iload_n 3, 1) := by decide +kernel
theorem dL_law_884 : decode cL_law 884 = .ok (.iconst 1, 1) := by decide +kernel
theorem dL_law_885 : decode cL_law 885 = .ok (.iadd, 1) := by decide +kernel
theorem dL_law_886 : decode cL_law 886 = .ok (.iaload, 1) := by decide +kernel
theorem dL_law_887 : decode cL_law 887 = .ok (.aload_n 0, 1) := by decide +kernel
theorem dL_law_888 : decode cL_law 888 = .ok (.iload_n 3, 1) := by decide +kernel
theorem dL_law_889 : decode cL_law 889 = .ok (.iconst 2, 1) := by decide +kernel
theorem dL_law_890 : decode cL_law 890 = .ok (.iadd, 1) := by decide +kernel
theorem dL_law_891 : decode cL_law 891 = .ok (.iaload, 1) := by decide +kernel
theorem dL_law_892 : decode cL_law 892 = .ok (.invokevirtual 109, 3) := by decide +kernel
theorem dL_law_895 : decode cL_law 895 = .ok (.if_icmp .eq 137, 3) := by decide +kernel
theorem dL_law_898 : decode cL_law 898 = .ok (.iconst 0, 1) := by decide +kernel
theorem dL_law_899 : decode cL_law 899 = .ok (.ireturn, 1) := by decide +kernel
theorem dL_law_900 : decode cL_law 900 = .ok (.aload_n 1, 1) := by decide +kernel
theorem dL_law_901 : decode cL_law 901 = .ok (.aload_n 0, 1) := by decide +kernel
theorem dL_law_902 : decode cL_law 902 = .ok (.iload_n 3, 1) := by decide +kernel
theorem dL_law_903 : decode cL_law 903 = .ok (.iconst 1, 1) := by decide +kernel
theorem dL_law_904 : decode cL_law 904 = .ok (.iadd, 1) := by decide +kernel
theorem dL_law_905 : decode cL_law 905 = .ok (.iaload, 1) := by decide +kernel
theorem dL_law_906 : decode cL_law 906 = .ok (.aload_n 0, 1) := by decide +kernel
theorem dL_law_907 : decode cL_law 907 = .ok (.iload_n 3, 1) := by decide +kernel
theorem dL_law_908 : decode cL_law 908 = .ok (.iconst 2, 1) := by decide +kernel
theorem dL_law_909 : decode cL_law 909 = .ok (.iadd, 1) := by decide +kernel
theorem dL_law_910 : decode cL_law 910 = .ok (.iaload, 1) := by decide +kernel
theorem dL_law_911 : decode cL_law 911 = .ok (.invokevirtual 110, 3) := by decide +kernel
theorem dL_law_914 : decode cL_law 914 = .ok (.aload_n 2, 1) := by decide +kernel
theorem dL_law_915 : decode cL_law 915 = .ok (.aload_n 0, 1) := by decide +kernel
theorem dL_law_916 : decode cL_law 916 = .ok (.iload_n 3, 1) := by decide +kernel
theorem dL_law_917 : decode cL_law 917 = .ok (.iconst 1, 1) := by decide +kernel
theorem dL_law_918 : decode cL_law 918 = .ok (.iadd, 1) := by decide +kernel
theorem dL_law_919 : decode cL_law 919 = .ok (.iaload, 1) := by decide +kernel
theorem dL_law_920 : decode cL_law 920 = .ok (.aload_n 0, 1) := by decide +kernel
theorem dL_law_921 : decode cL_law 921 = .ok (.iload_n 3, 1) := by decide +kernel
theorem dL_law_922 : decode cL_law 922 = .ok (.iconst 2, 1) := by decide +kernel
theorem dL_law_923 : decode cL_law 923 = .ok (.iadd, 1) := by decide +kernel
theorem dL_law_924 : decode cL_law 924 = .ok (.iaload, 1) := by decide +kernel
theorem dL_law_925 : decode cL_law 925 = .ok (.invokevirtual 113, 3) := by decide +kernel
theorem dL_law_928 : decode cL_law 928 = .ok (.if_icmp .eq 104, 3) := by decide +kernel
theorem dL_law_931 : decode cL_law 931 = .ok (.iconst 0, 1) := by decide +kernel
theorem dL_law_932 : decode cL_law 932 = .ok (.ireturn, 1) := by decide +kernel
theorem dL_law_933 : decode cL_law 933 = .ok (.aload_n 1, 1) := by decide +kernel
theorem dL_law_934 : decode cL_law 934 = .ok (.aload_n 0, 1) := by decide +kernel
theorem dL_law_935 : decode cL_law 935 = .ok (.iload_n 3, 1) := by decide +kernel
theorem dL_law_936 : decode cL_law 936 = .ok (.iconst 1, 1) := by decide +kernel
theorem dL_law_937 : decode cL_law 937 = .ok (.iadd, 1) := by decide +kernel
theorem dL_law_938 : decode cL_law 938 = .ok (.iaload, 1) := by decide +kernel
theorem dL_law_939 : decode cL_law 939 = .ok (.aload_n 0, 1) := by decide +kernel
theorem dL_law_940 : decode cL_law 940 = .ok (.iload_n 3, 1) := by decide +kernel
theorem dL_law_941 : decode cL_law 941 = .ok (.iconst 2, 1) := by decide +kernel
theorem dL_law_942 : decode cL_law 942 = .ok (.iadd, 1) := by decide +kernel
theorem dL_law_943 : decode cL_law 943 = .ok (.iaload, 1) := by decide +kernel
theorem dL_law_944 : decode cL_law 944 = .ok (.invokevirtual 114, 3) := by decide +kernel
theorem dL_law_947 : decode cL_law 947 = .ok (.aload_n 2, 1) := by decide +kernel
theorem dL_law_948 : decode cL_law 948 = .ok (.aload_n 0, 1) := by decide +kernel
theorem dL_law_949 : decode cL_law 949 = .ok (.iload_n 3, 1) := by decide +kernel
theorem dL_law_950 : decode cL_law 950 = .ok (.iconst 1, 1) := by decide +kernel
theorem dL_law_951 : decode cL_law 951 = .ok (.iadd, 1) := by decide +kernel
theorem dL_law_952 : decode cL_law 952 = .ok (.iaload, 1) := by decide +kernel
theorem dL_law_953 : decode cL_law 953 = .ok (.aload_n 0, 1) := by decide +kernel
theorem dL_law_954 : decode cL_law 954 = .ok (.iload_n 3, 1) := by decide +kernel
theorem dL_law_955 : decode cL_law 955 = .ok (.iconst 2, 1) := by decide +kernel
theorem dL_law_956 : decode cL_law 956 = .ok (.iadd, 1) := by decide +kernel
theorem dL_law_957 : decode cL_law 957 = .ok (.iaload, 1) := by decide +kernel
theorem dL_law_958 : decode cL_law 958 = .ok (.invokevirtual 117, 3) := by decide +kernel
theorem dL_law_961 : decode cL_law 961 = .ok (.if_icmp .eq 71, 3) := by decide +kernel
theorem dL_law_964 : decode cL_law 964 = .ok (.iconst 0, 1) := by decide +kernel
theorem dL_law_965 : decode cL_law 965 = .ok (.ireturn, 1) := by decide +kernel
theorem dL_law_966 : decode cL_law 966 = .ok (.aload_n 1, 1) := by decide +kernel
theorem dL_law_967 : decode cL_law 967 = .ok (.aload_n 0, 1) := by decide +kernel
theorem dL_law_968 : decode cL_law 968 = .ok (.iload_n 3, 1) := by decide +kernel
theorem dL_law_969 : decode cL_law 969 = .ok (.iconst 1, 1) := by decide +kernel
theorem dL_law_970 : decode cL_law 970 = .ok (.iadd, 1) := by decide +kernel
theorem dL_law_971 : decode cL_law 971 = .ok (.iaload, 1) := by decide +kernel
theorem dL_law_972 : decode cL_law 972 = .ok (.aload_n 0, 1) := by decide +kernel
theorem dL_law_973 : decode cL_law 973 = .ok (.iload_n 3, 1) := by decide +kernel
theorem dL_law_974 : decode cL_law 974 = .ok (.iconst 2, 1) := by decide +kernel
theorem dL_law_975 : decode cL_law 975 = .ok (.iadd, 1) := by decide +kernel
theorem dL_law_976 : decode cL_law 976 = .ok (.iaload, 1) := by decide +kernel
theorem dL_law_977 : decode cL_law 977 = .ok (.aload_n 0, 1) := by decide +kernel
theorem dL_law_978 : decode cL_law 978 = .ok (.iload_n 3, 1) := by decide +kernel
theorem dL_law_979 : decode cL_law 979 = .ok (.iconst 3, 1) := by decide +kernel
theorem dL_law_980 : decode cL_law 980 = .ok (.iadd, 1) := by decide +kernel
theorem dL_law_981 : decode cL_law 981 = .ok (.iaload, 1) := by decide +kernel
theorem dL_law_982 : decode cL_law 982 = .ok (.invokevirtual 118, 3) := by decide +kernel
theorem dL_law_985 : decode cL_law 985 = .ok (.aload_n 2, 1) := by decide +kernel
theorem dL_law_986 : decode cL_law 986 = .ok (.aload_n 0, 1) := by decide +kernel
theorem dL_law_987 : decode cL_law 987 = .ok (.iload_n 3, 1) := by decide +kernel
theorem dL_law_988 : decode cL_law 988 = .ok (.iconst 1, 1) := by decide +kernel
theorem dL_law_989 : decode cL_law 989 = .ok (.iadd, 1) := by decide +kernel
theorem dL_law_990 : decode cL_law 990 = .ok (.iaload, 1) := by decide +kernel
theorem dL_law_991 : decode cL_law 991 = .ok (.aload_n 0, 1) := by decide +kernel
theorem dL_law_992 : decode cL_law 992 = .ok (.iload_n 3, 1) := by decide +kernel
theorem dL_law_993 : decode cL_law 993 = .ok (.iconst 2, 1) := by decide +kernel
theorem dL_law_994 : decode cL_law 994 = .ok (.iadd, 1) := by decide +kernel
theorem dL_law_995 : decode cL_law 995 = .ok (.iaload, 1) := by decide +kernel
theorem dL_law_996 : decode cL_law 996 = .ok (.aload_n 0, 1) := by decide +kernel
theorem dL_law_997 : decode cL_law 997 = .ok (.iload_n 3, 1) := by decide +kernel
theorem dL_law_998 : decode cL_law 998 = .ok (.iconst 3, 1) := by decide +kernel
theorem dL_law_999 : decode cL_law 999 = .ok (.iadd, 1) := by decide +kernel
theorem dL_law_1000 : decode cL_law 1000 = .ok (.iaload, 1) := by decide +kernel
theorem dL_law_1001 : decode cL_law 1001 = .ok (.invokevirtual 121, 3) := by decide +kernel
theorem dL_law_1004 : decode cL_law 1004 = .ok (.if_icmp .eq 28, 3) := by decide +kernel
theorem dL_law_1007 : decode cL_law 1007 = .ok (.iconst 0, 1) := by decide +kernel
theorem dL_law_1008 : decode cL_law 1008 = .ok (.ireturn, 1) := by decide +kernel
theorem dL_law_1009 : decode cL_law 1009 = .ok (.aload_n 1, 1) := by decide +kernel
theorem dL_law_1010 : decode cL_law 1010 = .ok (.aload_n 0, 1) := by decide +kernel
theorem dL_law_1011 : decode cL_law 1011 = .ok (.iload_n 3, 1) := by decide +kernel
theorem dL_law_1012 : decode cL_law 1012 = .ok (.iconst 1, 1) := by decide +kernel
theorem dL_law_1013 : decode cL_law 1013 = .ok (.iadd, 1) := by decide +kernel
theorem dL_law_1014 : decode cL_law 1014 = .ok (.iaload, 1) := by decide +kernel
theorem dL_law_1015 : decode cL_law 1015 = .ok (.invokevirtual 122, 3) := by decide +kernel
theorem dL_law_1018 : decode cL_law 1018 = .ok (.aload_n 2, 1) := by decide +kernel
theorem dL_law_1019 : decode cL_law 1019 = .ok (.aload_n 0, 1) := by decide +kernel
theorem dL_law_1020 : decode cL_law 1020 = .ok (.iload_n 3, 1) := by decide +kernel
theorem dL_law_1021 : decode cL_law 1021 = .ok (.iconst 1, 1) := by decide +kernel
theorem dL_law_1022 : decode cL_law 1022 = .ok (.iadd, 1) := by decide +kernel
theorem dL_law_1023 : decode cL_law 1023 = .ok (.iaload, 1) := by decide +kernel
theorem dL_law_1024 : decode cL_law 1024 = .ok (.invokevirtual 125, 3) := by decide +kernel
theorem dL_law_1027 : decode cL_law 1027 = .ok (.if_icmp .eq 5, 3) := by decide +kernel
theorem dL_law_1030 : decode cL_law 1030 = .ok (.iconst 0, 1) := by decide +kernel
theorem dL_law_1031 : decode cL_law 1031 = .ok (.ireturn, 1) := by decide +kernel
theorem dL_law_1032 : decode cL_law 1032 = .ok (.iinc 3 5, 3) := by decide +kernel
theorem dL_law_1035 : decode cL_law 1035 = .ok (.goto (-1017), 3) := by decide +kernel
theorem dL_law_1038 : decode cL_law 1038 = .ok (.iconst 1, 1) := by decide +kernel
theorem dL_law_1039 : decode cL_law 1039 = .ok (.ireturn, 1) := by decide +kernel
end
section
/-! ints and longs as integers -/
def zI (e : Int) : Int32 := Int32.ofInt e
def zL (e : Int) : Int64 := Int64.ofInt e
def bI (b : Bool) : Int := if b then 1 else 0
theorem bI_t {b : Bool} (h : ¬ bI b = 0) : b = true := by cases b <;> simp_all [bI]
theorem bI_f {b : Bool} (h : bI b = 0) : b = false := by cases b <;> simp_all [bI]
theorem bI_01 (b : Bool) : 0 ≤ bI b ∧ bI b ≤ 1 := by cases b <;> simp [bI]
theorem bI_c {b : Bool} {P : Prop} (h : b = true ↔ P) : (bI b = 0 ↔ ¬ P) ∧ (¬ bI b = 0 ↔ P) := by cases b <;> simp_all [bI]
theorem zI_toInt {e : Int} (h : -2147483648 ≤ e ∧ e < 2147483648) : (zI e).toInt = e := Int32.toInt_ofInt_of_le (by omega) (by omega)
theorem zL_toInt {e : Int} (h : -9223372036854775808 ≤ e ∧ e < 9223372036854775808) : (zL e).toInt = e := Int64.toInt_ofInt_of_le (by omega) (by omega)
theorem zI_as (x : Int32) : x = zI x.toInt := (Int32.ofInt_toInt x).symm
theorem zL_as (x : Int64) : x = zL x.toInt := (Int64.ofInt_toInt x).symm
theorem zI_rng (x : Int32) : -2147483648 ≤ x.toInt ∧ x.toInt < 2147483648 := ⟨by have := Int32.le_toInt x; omega, by have := Int32.toInt_lt x; omega⟩
theorem zL_rng (x : Int64) : -9223372036854775808 ≤ x.toInt ∧ x.toInt < 9223372036854775808 := ⟨by have := Int64.le_toInt x; omega, by have := Int64.toInt_lt x; omega⟩
theorem zI_nI (n : Nat) : nI n = zI n := (Int32.ofInt_eq_ofNat (n := n)).symm
theorem zL_lN (n : Nat) : lN n = zL n := (Int64.ofInt_eq_ofNat (n := n)).symm
theorem lN_toI {n : Nat} (h : n < 9223372036854775808) : (lN n).toInt = (n : Int) := by rw [zL_lN, zL_toInt (by omega)]
theorem zI_le {a b : Int} (ha : -2147483648 ≤ a ∧ a < 2147483648) (hb : -2147483648 ≤ b ∧ b < 2147483648) : zI a ≤ zI b ↔ a ≤ b := by rw [Int32.le_iff_toInt_le, zI_toInt ha, zI_toInt hb]
theorem zI_lt {a b : Int} (ha : -2147483648 ≤ a ∧ a < 2147483648) (hb : -2147483648 ≤ b ∧ b < 2147483648) : zI a < zI b ↔ a < b := by rw [Int32.lt_iff_toInt_lt, zI_toInt ha, zI_toInt hb]
theorem zI_eq {a b : Int} (ha : -2147483648 ≤ a ∧ a < 2147483648) (hb : -2147483648 ≤ b ∧ b < 2147483648) : zI a = zI b ↔ a = b := by rw [← Int32.toInt_inj, zI_toInt ha, zI_toInt hb]
theorem zI_0 : zI 0 = 0 := rfl
theorem zI_cl {a : Int} (ha : -2147483648 ≤ a ∧ a < 2147483648) : (zI a).toNatClampNeg = a.toNat := Int32.toNatClampNeg_ofInt_of_le (by omega) (by omega)
theorem zI_in {a : Int} {n : Nat} (h : 0 ≤ a ∧ a < n) (hn : n < 2147483648) : vp_in (zI a) n := vp_in_iff.mpr (by rw [zI_toInt (by omega)]; exact h)
theorem nnI (n : Nat) : nI n = zI (n : Int) := zI_nI n
def zF (F : Nat → Int) : Nat → Int32 := fun j => zI (F j)
def lF (G : Nat → Nat) : Nat → Int64 := fun j => lN (G j)
theorem zF_up (F : Nat → Int) (k : Nat) (v : Int) : upd (zF F) k (zI v) = zF (va_up F k v) := by
  funext j
  simp only [upd, zF, va_up]
  by_cases h : j = k <;> simp [h]
theorem lF_up (G : Nat → Nat) (k : Nat) (v : Nat) : vp_updL (lF G) k (lN v) = lF (va_up G k v) := by
  funext j
  simp only [vp_updL, lF, va_up]
  by_cases h : j = k <;> simp [h]
theorem lN_andL (a b : Nat) : lN a &&& lN b = lN (a &&& b) := by
  apply Int64.toBitVec_inj.1
  show BitVec.ofNat 64 a &&& BitVec.ofNat 64 b = BitVec.ofNat 64 (a &&& b)
  simp
theorem lN_orL (a b : Nat) : lN a ||| lN b = lN (a ||| b) := by
  apply Int64.toBitVec_inj.1
  show BitVec.ofNat 64 a ||| BitVec.ofNat 64 b = BitVec.ofNat 64 (a ||| b)
  simp
theorem lN_xorL (a b : Nat) : lN a ^^^ lN b = lN (a ^^^ b) := by
  apply Int64.toBitVec_inj.1
  show BitVec.ofNat 64 a ^^^ BitVec.ofNat 64 b = BitVec.ofNat 64 (a ^^^ b)
  simp
theorem lN_shc : ∀ k, k < 64 → ((nI k).toInt64 &&& 63) = lN k := by decide +kernel
theorem lN_shu : ∀ k, k < 64 → ((nI k).toInt64.toUInt64 &&& Int64.toUInt64 63) = UInt64.ofNat k := by decide +kernel
theorem lN_shm : ∀ k, k < 64 → (BitVec.ofNat 64 k).smod 64 = BitVec.ofNat 64 k := by decide +kernel
theorem lN_shl (n : Nat) {k : Nat} (hk : k < 64) : lN n <<< ((zI (k : Int)).toInt64 &&& 63) = lN (n <<< k) := by
  rw [← zI_nI, lN_shc k hk]
  apply Int64.toBitVec_inj.1
  rw [Int64.toBitVec_shiftLeft]
  show BitVec.ofNat 64 n <<< ((BitVec.ofNat 64 k).smod 64) = BitVec.ofNat 64 (n <<< k)
  rw [lN_shm k hk]
  apply BitVec.eq_of_toNat_eq
  rw [BitVec.shiftLeft_eq', BitVec.toNat_shiftLeft, BitVec.toNat_ofNat, BitVec.toNat_ofNat, BitVec.toNat_ofNat, Nat.mod_eq_of_lt (show k < 2 ^ 64 by omega), Nat.shiftLeft_eq, Nat.shiftLeft_eq, Nat.mul_mod, Nat.mod_mod, ← Nat.mul_mod]
theorem lN_ushr {n k : Nat} (hn : n < 18446744073709551616) (hk : k < 64) : ((lN n).toUInt64 >>> ((zI (k : Int)).toInt64.toUInt64 &&& Int64.toUInt64 63)).toInt64 = lN (n >>> k) := by
  rw [← zI_nI, lN_shu k hk]
  apply Int64.toBitVec_inj.1
  apply BitVec.eq_of_toNat_eq
  show ((lN n).toUInt64 >>> UInt64.ofNat k).toNat = (BitVec.ofNat 64 _).toNat
  have h1 : (UInt64.ofNat k).toNat = k := by
    show (BitVec.ofNat 64 k).toNat = k
    rw [BitVec.toNat_ofNat, Nat.mod_eq_of_lt (by omega)]
  have h2 : (lN n).toUInt64.toNat = n := by
    show (BitVec.ofNat 64 n).toNat = n
    rw [BitVec.toNat_ofNat, Nat.mod_eq_of_lt (by omega)]
  rw [UInt64.toNat_shiftRight, h1, h2, Nat.mod_eq_of_lt hk, BitVec.toNat_ofNat, Nat.mod_eq_of_lt]
  rw [Nat.shiftRight_eq_div_pow]
  exact Nat.lt_of_le_of_lt (Nat.div_le_self _ _) hn
theorem lN_shr {n k : Nat} (hn : n < 9223372036854775808) (hk : k < 64) : lN n >>> ((zI (k : Int)).toInt64 &&& 63) = lN (n >>> k) := by
  have hd : n >>> k ≤ n := Nat.shiftRight_le n k
  rw [← zI_nI, lN_shc k hk]
  apply Int64.toInt_inj.mp
  have hk' : ((lN k).toBitVec.smod 64).toNat = k := by
    show ((BitVec.ofNat 64 k).smod 64).toNat = k
    rw [lN_shm k hk, BitVec.toNat_ofNat, Nat.mod_eq_of_lt (by omega)]
  have e : (lN n >>> lN k).toInt = (lN n).toInt >>> k := by
    show ((lN n).toBitVec.sshiftRight ((lN k).toBitVec.smod 64).toNat).toInt = (lN n).toBitVec.toInt >>> k
    rw [hk', BitVec.toInt_sshiftRight]
  rw [e, Int.shiftRight_eq_div_pow, lN_toI (by omega), lN_toI (by omega), Nat.shiftRight_eq_div_pow]
  rfl
theorem lN_subL {a b : Nat} (h : b ≤ a) : lN a - lN b = lN (a - b) := lN_sub h
theorem zI_shl (a : Int) {k : Nat} (hk : k < 32) : zI a <<< (zI (k : Int) &&& 31) = zI (a * 2 ^ k) := by
  have hs : ∀ k, k < 32 → (zI ((k : Nat) : Int) &&& 31).toBitVec.smod 32 = BitVec.ofNat 32 k := by decide +kernel
  have ht : ∀ k, k < 32 → BitVec.twoPow 32 k = BitVec.ofInt 32 (2 ^ k) := by decide +kernel
  apply Int32.toBitVec_inj.1
  rw [Int32.toBitVec_shiftLeft, hs k hk]
  show BitVec.ofInt 32 a <<< BitVec.ofNat 32 k = BitVec.ofInt 32 (a * 2 ^ k)
  rw [BitVec.shiftLeft_eq', BitVec.toNat_ofNat, Nat.mod_eq_of_lt (show k < 2 ^ 32 by omega), BitVec.shiftLeft_eq_mul_twoPow, BitVec.ofInt_mul, ht k hk]
theorem nI_andI (a b : Nat) : nI a &&& nI b = nI (a &&& b) := by
  apply Int32.toBitVec_inj.1
  show BitVec.ofNat 32 a &&& BitVec.ofNat 32 b = BitVec.ofNat 32 (a &&& b)
  simp
theorem nI_orI (a b : Nat) : nI a ||| nI b = nI (a ||| b) := by
  apply Int32.toBitVec_inj.1
  show BitVec.ofNat 32 a ||| BitVec.ofNat 32 b = BitVec.ofNat 32 (a ||| b)
  simp
theorem zI_eq0 {a : Int} (ha : -2147483648 ≤ a ∧ a < 2147483648) : zI a = 0 ↔ a = 0 := zI_eq (b := 0) ha (by decide)
theorem zI_lt0 {a : Int} (ha : -2147483648 ≤ a ∧ a < 2147483648) : zI a < 0 ↔ a < 0 := zI_lt (b := 0) ha (by decide)
theorem zI_le0 {a : Int} (ha : -2147483648 ≤ a ∧ a < 2147483648) : zI a ≤ 0 ↔ a ≤ 0 := zI_le (b := 0) ha (by decide)
theorem zI_0lt {a : Int} (ha : -2147483648 ≤ a ∧ a < 2147483648) : 0 < zI a ↔ 0 < a := zI_lt (a := 0) (by decide) ha
theorem zI_0le {a : Int} (ha : -2147483648 ≤ a ∧ a < 2147483648) : 0 ≤ zI a ↔ 0 ≤ a := zI_le (a := 0) (by decide) ha
theorem zI_i2l {a : Int} (h : -2147483648 ≤ a ∧ a < 2147483648) : (zI a).toInt64 = zL a := Int32.toInt64_ofInt (by have q : Int32.minValue.toInt = -2147483648 := rfl; omega) (by have q : Int32.maxValue.toInt = 2147483647 := rfl; omega)
theorem zL_l2i (a : Int) : (zL a).toInt32 = zI a := Int64.toInt32_ofInt
theorem zI_div {a b : Int} (ha : 0 ≤ a ∧ a < 2147483648) (hb : 0 < b ∧ b < 2147483648) : zI a / zI b = zI (a / b) := by
  obtain ⟨a, rfl⟩ := Int.eq_ofNat_of_zero_le ha.1
  obtain ⟨b, rfl⟩ := Int.eq_ofNat_of_zero_le (Int.le_of_lt hb.1)
  rw [← zI_nI, ← zI_nI, pk_div (by omega) (by omega) (by omega), zI_nI]
  rfl
theorem zI_rem {a b : Int} (ha : 0 ≤ a ∧ a < 2147483648) (hb : 0 < b ∧ b < 2147483648) : zI a - zI a / zI b * zI b = zI (a % b) := by
  obtain ⟨a, rfl⟩ := Int.eq_ofNat_of_zero_le ha.1
  obtain ⟨b, rfl⟩ := Int.eq_ofNat_of_zero_le (Int.le_of_lt hb.1)
  rw [← zI_nI, ← zI_nI, pk_rem (by omega) (by omega) (by omega), zI_nI]
  rfl
theorem zI_ne0 {b : Int} (hb : 0 < b ∧ b < 2147483648) : ¬ zI b = 0 := by
  rw [← zI_0, zI_eq (by omega) (by omega)]
  omega
theorem lg_cmp_z {x y : Int64} {a b : Int} (hx : x.toInt = a) (hy : y.toInt = b) : lg_cmp x y = zI (if b < a then 1 else if a = b then 0 else -1) := by
  have h1 : y < x ↔ b < a := by rw [Int64.lt_iff_toInt_lt, hx, hy]
  have h2 : x = y ↔ a = b := by rw [← Int64.toInt_inj, hx, hy]
  unfold lg_cmp
  by_cases q1 : b < a
  · rw [if_pos (h1.mpr q1), if_pos q1]; rfl
  · rw [if_neg (fun z => q1 (h1.mp z)), if_neg q1]
    by_cases q2 : a = b
    · rw [if_pos (h2.mpr q2), if_pos q2]; rfl
    · rw [if_neg (fun z => q2 (h2.mp z)), if_neg q2]; rfl
theorem nI_ushr {a q : Nat} (ha : a < 4294967296) (hq : q < 32) : ((nI a).toUInt32 >>> ((nI q).toUInt32 &&& Int32.toUInt32 31)).toInt32 = nI (a >>> q) := by
  have h : ∀ q, q < 32 → (((nI q).toUInt32 &&& Int32.toUInt32 31).toBitVec % 32).toNat = q := by decide +kernel
  rw [Nat.shiftRight_eq_div_pow]
  exact pk_ushrN (by omega) (nI q) q (h q hq)
theorem zI_incr {e n e2 : Int} (h : e + n = e2) : zI e + Int32.ofInt n = zI e2 := by subst h; exact (Int32.ofInt_add e n).symm
def bP (P : Prop) [Decidable P] : Int := if P then 1 else 0
theorem bP_1 {P : Prop} [Decidable P] (h : P) : bP P = 1 := if_pos h
theorem bP_0 {P : Prop} [Decidable P] (h : ¬ P) : bP P = 0 := if_neg h
theorem bP_rng (P : Prop) [Decidable P] : -2147483648 ≤ bP P ∧ bP P < 2147483648 := by unfold bP; split <;> omega
theorem bP_t {P : Prop} [Decidable P] (h : ¬ bP P = 0) : P := by
  by_cases q : P
  · exact q
  · exact absurd (bP_0 q) h
theorem bP_f {P : Prop} [Decidable P] (h : bP P = 0) : ¬ P := fun q => by rw [bP_1 q] at h; cases h
theorem bP_or (P : Prop) [Decidable P] : zI (bP P) = 0 ∨ zI (bP P) = 1 := by
  by_cases q : P
  · exact Or.inr (by rw [bP_1 q]; rfl)
  · exact Or.inl (by rw [bP_0 q]; rfl)
theorem bP_cg {P Q : Prop} [Decidable P] [Decidable Q] (h : P ↔ Q) : bP P = bP Q := by
  by_cases q : P
  · rw [bP_1 q, bP_1 (h.mp q)]
  · rw [bP_0 q, bP_0 (fun z => q (h.mpr z))]
theorem nar_b (v : Int32) (h : v = 0 ∨ v = 1) : narrow .boolean (.int v) = .int v := by rcases h with rfl | rfl <;> rfl
abbrev TY (t : Nat → ClassId) : List (ClassId × FieldType) := [(t 0, .int), (t 1, .long), (t 2, .boolean), (t 3, .object "CancelRows$Sheet"), (t 4, .object "CancelRows$PairList"), (t 5, .object "CancelRows$BestRows"), (t 6, .object "java/lang/Object")]
section ZR
variable {p : Program} {l : Launch} {e : Env} {R : Room} {s : State} {m : MethodId} {args : Array Value} {below : List Frame} {meth : Method} {c : Code} {H : Heap} {locs : List Loc} {cells slots : Nat} {Q : State → Prop}
variable {cc : ByteArray} {pc : Nat} {ls : Array Slot} {rest : List Value}
theorem z_iadd (hexec : p.tables.exec = Jvm.exec) (hb : c.code = cc) {a b : Int} (hdg : decode cc pc = .ok (.iadd, 1))
    (k : W p l e R s m args below meth c H locs cells slots Q (F0 m (pc + 1) ls (.int (zI (a + b)) :: rest))) : W p l e R s m args below meth c H locs cells slots Q (F0 m (pc) ls (.int (zI b) :: .int (zI a) :: rest)) := by
  exact lv_iadd hexec hb hdg (by rw [show zI a + zI b = zI (a + b) from (Int32.ofInt_add a b).symm]; exact k)
theorem z_isub (hexec : p.tables.exec = Jvm.exec) (hb : c.code = cc) {a b : Int} (hdg : decode cc pc = .ok (.isub, 1))
    (k : W p l e R s m args below meth c H locs cells slots Q (F0 m (pc + 1) ls (.int (zI (a - b)) :: rest))) : W p l e R s m args below meth c H locs cells slots Q (F0 m (pc) ls (.int (zI b) :: .int (zI a) :: rest)) := by
  exact lv_isub hexec hb hdg (by rw [show zI a - zI b = zI (a - b) from (Int32.ofInt_sub a b).symm]; exact k)
theorem z_imul (hexec : p.tables.exec = Jvm.exec) (hb : c.code = cc) {a b : Int} (hdg : decode cc pc = .ok (.imul, 1))
    (k : W p l e R s m args below meth c H locs cells slots Q (F0 m (pc + 1) ls (.int (zI (a * b)) :: rest))) : W p l e R s m args below meth c H locs cells slots Q (F0 m (pc) ls (.int (zI b) :: .int (zI a) :: rest)) := by
  exact lv_imul hexec hb hdg (by rw [show zI a * zI b = zI (a * b) from (Int32.ofInt_mul a b).symm]; exact k)
theorem z_ladd (hexec : p.tables.exec = Jvm.exec) (hb : c.code = cc) {a b : Int} (hdg : decode cc pc = .ok (.ladd, 1))
    (k : W p l e R s m args below meth c H locs cells slots Q (F0 m (pc + 1) ls (.long (zL (a + b)) :: rest))) : W p l e R s m args below meth c H locs cells slots Q (F0 m (pc) ls (.long (zL b) :: .long (zL a) :: rest)) := by
  exact lv_ladd hexec hb hdg (by rw [show zL a + zL b = zL (a + b) from (Int64.ofInt_add a b).symm]; exact k)
theorem z_lsub (hexec : p.tables.exec = Jvm.exec) (hb : c.code = cc) {a b : Int} (hdg : decode cc pc = .ok (.lsub, 1))
    (k : W p l e R s m args below meth c H locs cells slots Q (F0 m (pc + 1) ls (.long (zL (a - b)) :: rest))) : W p l e R s m args below meth c H locs cells slots Q (F0 m (pc) ls (.long (zL b) :: .long (zL a) :: rest)) := by
  exact lv_lsub hexec hb hdg (by rw [show zL a - zL b = zL (a - b) from (Int64.ofInt_sub a b).symm]; exact k)
theorem z_lmul (hexec : p.tables.exec = Jvm.exec) (hb : c.code = cc) {a b : Int} (hdg : decode cc pc = .ok (.lmul, 1))
    (k : W p l e R s m args below meth c H locs cells slots Q (F0 m (pc + 1) ls (.long (zL (a * b)) :: rest))) : W p l e R s m args below meth c H locs cells slots Q (F0 m (pc) ls (.long (zL b) :: .long (zL a) :: rest)) := by
  exact lv_lmul hexec hb hdg (by rw [show zL a * zL b = zL (a * b) from (Int64.ofInt_mul a b).symm]; exact k)
theorem z_ineg (hexec : p.tables.exec = Jvm.exec) (hb : c.code = cc) {a : Int} (hdg : decode cc pc = .ok (.ineg, 1))
    (k : W p l e R s m args below meth c H locs cells slots Q (F0 m (pc + 1) ls (.int (zI (-a)) :: rest))) : W p l e R s m args below meth c H locs cells slots Q (F0 m (pc) ls (.int (zI a) :: rest)) := by
  exact lv_ineg hexec hb hdg (by rw [show -zI a = zI (-a) from (Int32.ofInt_neg a).symm]; exact k)
theorem z_ishl (hexec : p.tables.exec = Jvm.exec) (hb : c.code = cc) {a : Int} {q : Nat} (hq : q < 32) (hdg : decode cc pc = .ok (.ishl, 1))
    (k : W p l e R s m args below meth c H locs cells slots Q (F0 m (pc + 1) ls (.int (zI (a * 2 ^ q)) :: rest))) : W p l e R s m args below meth c H locs cells slots Q (F0 m (pc) ls (.int (zI (q : Int)) :: .int (zI a) :: rest)) := by
  exact lv_ishl hexec hb hdg (by rw [zI_shl a hq]; exact k)
theorem z_idiv (hexec : p.tables.exec = Jvm.exec) (hb : c.code = cc) {a b : Int} (ha : 0 ≤ a ∧ a < 2147483648) (hb2 : 0 < b ∧ b < 2147483648) (hdg : decode cc pc = .ok (.idiv, 1))
    (k : W p l e R s m args below meth c H locs cells slots Q (F0 m (pc + 1) ls (.int (zI (a / b)) :: rest))) : W p l e R s m args below meth c H locs cells slots Q (F0 m (pc) ls (.int (zI b) :: .int (zI a) :: rest)) := by
  exact lv_idiv hexec hb hdg (zI_ne0 hb2) (by rw [zI_div ha hb2]; exact k)
theorem z_irem (hexec : p.tables.exec = Jvm.exec) (hb : c.code = cc) {a b : Int} (ha : 0 ≤ a ∧ a < 2147483648) (hb2 : 0 < b ∧ b < 2147483648) (hdg : decode cc pc = .ok (.irem, 1))
    (k : W p l e R s m args below meth c H locs cells slots Q (F0 m (pc + 1) ls (.int (zI (a % b)) :: rest))) : W p l e R s m args below meth c H locs cells slots Q (F0 m (pc) ls (.int (zI b) :: .int (zI a) :: rest)) := by
  exact lv_irem hexec hb hdg (zI_ne0 hb2) (by rw [zI_rem ha hb2]; exact k)
theorem z_i2l (hexec : p.tables.exec = Jvm.exec) (hb : c.code = cc) {a : Int} (ha : -2147483648 ≤ a ∧ a < 2147483648) (hdg : decode cc pc = .ok (.i2l, 1))
    (k : W p l e R s m args below meth c H locs cells slots Q (F0 m (pc + 1) ls (.long (zL a) :: rest))) : W p l e R s m args below meth c H locs cells slots Q (F0 m (pc) ls (.int (zI a) :: rest)) := by
  exact lv_i2l hexec hb hdg (zI_i2l ha) k
theorem n_i2l (hexec : p.tables.exec = Jvm.exec) (hb : c.code = cc) {a : Nat} (ha : a < 2147483648) (hdg : decode cc pc = .ok (.i2l, 1))
    (k : W p l e R s m args below meth c H locs cells slots Q (F0 m (pc + 1) ls (.long (lN a) :: rest))) : W p l e R s m args below meth c H locs cells slots Q (F0 m (pc) ls (.int (zI (a : Int)) :: rest)) := by
  exact lv_i2l hexec hb hdg (by rw [zL_lN]; exact zI_i2l (by omega)) k
theorem z_l2i (hexec : p.tables.exec = Jvm.exec) (hb : c.code = cc) {a : Int} (hdg : decode cc pc = .ok (.l2i, 1))
    (k : W p l e R s m args below meth c H locs cells slots Q (F0 m (pc + 1) ls (.int (zI a) :: rest))) : W p l e R s m args below meth c H locs cells slots Q (F0 m (pc) ls (.long (zL a) :: rest)) := by
  exact lv_l2i hexec hb hdg (zL_l2i a) k
theorem n_l2i (hexec : p.tables.exec = Jvm.exec) (hb : c.code = cc) {a : Nat} (hdg : decode cc pc = .ok (.l2i, 1))
    (k : W p l e R s m args below meth c H locs cells slots Q (F0 m (pc + 1) ls (.int (zI (a : Int)) :: rest))) : W p l e R s m args below meth c H locs cells slots Q (F0 m (pc) ls (.long (lN a) :: rest)) := by
  exact lv_l2i hexec hb hdg (by rw [zL_lN]; exact zL_l2i _) k
theorem n_land (hexec : p.tables.exec = Jvm.exec) (hb : c.code = cc) {a b : Nat} (hdg : decode cc pc = .ok (.land, 1))
    (k : W p l e R s m args below meth c H locs cells slots Q (F0 m (pc + 1) ls (.long (lN (a &&& b)) :: rest))) : W p l e R s m args below meth c H locs cells slots Q (F0 m (pc) ls (.long (lN b) :: .long (lN a) :: rest)) := by
  exact lv_land hexec hb hdg (by rw [lN_andL]; exact k)
theorem n_lor (hexec : p.tables.exec = Jvm.exec) (hb : c.code = cc) {a b : Nat} (hdg : decode cc pc = .ok (.lor, 1))
    (k : W p l e R s m args below meth c H locs cells slots Q (F0 m (pc + 1) ls (.long (lN (a ||| b)) :: rest))) : W p l e R s m args below meth c H locs cells slots Q (F0 m (pc) ls (.long (lN b) :: .long (lN a) :: rest)) := by
  exact lv_lor hexec hb hdg (by rw [lN_orL]; exact k)
theorem n_lxor (hexec : p.tables.exec = Jvm.exec) (hb : c.code = cc) {a b : Nat} (hdg : decode cc pc = .ok (.lxor, 1))
    (k : W p l e R s m args below meth c H locs cells slots Q (F0 m (pc + 1) ls (.long (lN (a ^^^ b)) :: rest))) : W p l e R s m args below meth c H locs cells slots Q (F0 m (pc) ls (.long (lN b) :: .long (lN a) :: rest)) := by
  exact lv_lxor hexec hb hdg (by rw [lN_xorL]; exact k)
theorem n_iand (hexec : p.tables.exec = Jvm.exec) (hb : c.code = cc) {a b : Nat} (hdg : decode cc pc = .ok (.iand, 1))
    (k : W p l e R s m args below meth c H locs cells slots Q (F0 m (pc + 1) ls (.int (zI ((a &&& b : Nat) : Int)) :: rest))) : W p l e R s m args below meth c H locs cells slots Q (F0 m (pc) ls (.int (zI (b : Int)) :: .int (zI (a : Int)) :: rest)) := by
  exact lv_iand hexec hb hdg (by rw [← zI_nI, ← zI_nI, nI_andI, zI_nI]; exact k)
theorem n_ior (hexec : p.tables.exec = Jvm.exec) (hb : c.code = cc) {a b : Nat} (hdg : decode cc pc = .ok (.ior, 1))
    (k : W p l e R s m args below meth c H locs cells slots Q (F0 m (pc + 1) ls (.int (zI ((a ||| b : Nat) : Int)) :: rest))) : W p l e R s m args below meth c H locs cells slots Q (F0 m (pc) ls (.int (zI (b : Int)) :: .int (zI (a : Int)) :: rest)) := by
  exact lv_ior hexec hb hdg (by rw [← zI_nI, ← zI_nI, nI_orI, zI_nI]; exact k)
theorem n_lshl (hexec : p.tables.exec = Jvm.exec) (hb : c.code = cc) {a q : Nat} (hq : q < 64) (hdg : decode cc pc = .ok (.lshl, 1))
    (k : W p l e R s m args below meth c H locs cells slots Q (F0 m (pc + 1) ls (.long (lN (a <<< q)) :: rest))) : W p l e R s m args below meth c H locs cells slots Q (F0 m (pc) ls (.int (zI (q : Int)) :: .long (lN a) :: rest)) := by
  exact lv_lshl hexec hb hdg (lN_shl a hq) k
theorem n_lushr (hexec : p.tables.exec = Jvm.exec) (hb : c.code = cc) {a q : Nat} (ha : a < 18446744073709551616) (hq : q < 64) (hdg : decode cc pc = .ok (.lushr, 1))
    (k : W p l e R s m args below meth c H locs cells slots Q (F0 m (pc + 1) ls (.long (lN (a >>> q)) :: rest))) : W p l e R s m args below meth c H locs cells slots Q (F0 m (pc) ls (.int (zI (q : Int)) :: .long (lN a) :: rest)) := by
  exact lv_lushr hexec hb hdg (lN_ushr ha hq) k
theorem n_lshr (hexec : p.tables.exec = Jvm.exec) (hb : c.code = cc) {a q : Nat} (ha : a < 9223372036854775808) (hq : q < 64) (hdg : decode cc pc = .ok (.lshr, 1))
    (k : W p l e R s m args below meth c H locs cells slots Q (F0 m (pc + 1) ls (.long (lN (a >>> q)) :: rest))) : W p l e R s m args below meth c H locs cells slots Q (F0 m (pc) ls (.int (zI (q : Int)) :: .long (lN a) :: rest)) := by
  exact lv_lshr hexec hb hdg (lN_shr ha hq) k
theorem n_ladd (hexec : p.tables.exec = Jvm.exec) (hb : c.code = cc) {a b : Nat} (hdg : decode cc pc = .ok (.ladd, 1))
    (k : W p l e R s m args below meth c H locs cells slots Q (F0 m (pc + 1) ls (.long (lN (a + b)) :: rest))) : W p l e R s m args below meth c H locs cells slots Q (F0 m (pc) ls (.long (lN b) :: .long (lN a) :: rest)) := by
  exact lv_ladd hexec hb hdg (by rw [lN_add]; exact k)
theorem n_lsub (hexec : p.tables.exec = Jvm.exec) (hb : c.code = cc) {a b : Nat} (h : b ≤ a) (hdg : decode cc pc = .ok (.lsub, 1))
    (k : W p l e R s m args below meth c H locs cells slots Q (F0 m (pc + 1) ls (.long (lN (a - b)) :: rest))) : W p l e R s m args below meth c H locs cells slots Q (F0 m (pc) ls (.long (lN b) :: .long (lN a) :: rest)) := by
  exact lv_lsub hexec hb hdg (by rw [lN_subL h]; exact k)
theorem z_icmp_eq (hexec : p.tables.exec = Jvm.exec) (hb : c.code = cc) {a b : Int} {off : Int} {tgt : Nat} (hdg : decode cc pc = .ok (.if_icmp .eq off, 3)) (ht : (pc : Int) + off = (tgt : Int)) (ha : -2147483648 ≤ a ∧ a < 2147483648) (hb2 : -2147483648 ≤ b ∧ b < 2147483648)
    (kt : a = b → W p l e R s m args below meth c H locs cells slots Q (F0 m (tgt) ls (rest))) (kf : ¬ a = b → W p l e R s m args below meth c H locs cells slots Q (F0 m (pc + 3) ls (rest))) : W p l e R s m args below meth c H locs cells slots Q (F0 m (pc) ls (.int (zI b) :: .int (zI a) :: rest)) :=
  lv_icmp_eq hexec hb hdg ht (fun z => kt ((zI_eq ha hb2).mp z)) (fun z => kf (fun y => z ((zI_eq ha hb2).mpr y)))
theorem z_if_eq (hexec : p.tables.exec = Jvm.exec) (hb : c.code = cc) {a : Int} {off : Int} {tgt : Nat} (hdg : decode cc pc = .ok (.ifCond .eq off, 3)) (ht : (pc : Int) + off = (tgt : Int)) (ha : -2147483648 ≤ a ∧ a < 2147483648)
    (kt : a = 0 → W p l e R s m args below meth c H locs cells slots Q (F0 m (tgt) ls (rest))) (kf : ¬ a = 0 → W p l e R s m args below meth c H locs cells slots Q (F0 m (pc + 3) ls (rest))) : W p l e R s m args below meth c H locs cells slots Q (F0 m (pc) ls (.int (zI a) :: rest)) :=
  lv_if_eq hexec hb hdg ht (fun z => kt ((zI_eq0 ha).mp z)) (fun z => kf (fun y => z ((zI_eq0 ha).mpr y)))
theorem z_lcmp_eq (hexec : p.tables.exec = Jvm.exec) (hb : c.code = cc) {x y : Int64} {a b : Int} {off : Int} {tgt : Nat} (hd1 : decode cc pc = .ok (.lcmp, 1)) (hdg : decode cc (pc + 1) = .ok (.ifCond .eq off, 3)) (ht : ((pc + 1 : Nat) : Int) + off = (tgt : Int)) (hx : x.toInt = a) (hy : y.toInt = b)
    (kt : a = b → W p l e R s m args below meth c H locs cells slots Q (F0 m (tgt) ls (rest))) (kf : ¬ a = b → W p l e R s m args below meth c H locs cells slots Q (F0 m (pc + 4) ls (rest))) : W p l e R s m args below meth c H locs cells slots Q (F0 m (pc) ls (.long y :: .long x :: rest)) := by
  refine W.lcmp hexec hb hd1 ?_
  rw [lg_cmp_z hx hy]
  refine z_if_eq (pc := pc + 1) hexec hb hdg ht (by split <;> (try split) <;> omega) (fun z => kt ?_) (fun z => kf ?_) <;> (split at z <;> (try split at z) <;> omega)
theorem z_icmp_ne (hexec : p.tables.exec = Jvm.exec) (hb : c.code = cc) {a b : Int} {off : Int} {tgt : Nat} (hdg : decode cc pc = .ok (.if_icmp .ne off, 3)) (ht : (pc : Int) + off = (tgt : Int)) (ha : -2147483648 ≤ a ∧ a < 2147483648) (hb2 : -2147483648 ≤ b ∧ b < 2147483648)
    (kt : ¬ a = b → W p l e R s m args below meth c H locs cells slots Q (F0 m (tgt) ls (rest))) (kf : a = b → W p l e R s m args below meth c H locs cells slots Q (F0 m (pc + 3) ls (rest))) : W p l e R s m args below meth c H locs cells slots Q (F0 m (pc) ls (.int (zI b) :: .int (zI a) :: rest)) :=
  lv_icmp_ne hexec hb hdg ht (fun z => kt (fun y => z ((zI_eq ha hb2).mpr y))) (fun z => kf ((zI_eq ha hb2).mp z))
theorem z_if_ne (hexec : p.tables.exec = Jvm.exec) (hb : c.code = cc) {a : Int} {off : Int} {tgt : Nat} (hdg : decode cc pc = .ok (.ifCond .ne off, 3)) (ht : (pc : Int) + off = (tgt : Int)) (ha : -2147483648 ≤ a ∧ a < 2147483648)
    (kt : ¬ a = 0 → W p l e R s m args below meth c H locs cells slots Q (F0 m (tgt) ls (rest))) (kf : a = 0 → W p l e R s m args below meth c H locs cells slots Q (F0 m (pc + 3) ls (rest))) : W p l e R s m args below meth c H locs cells slots Q (F0 m (pc) ls (.int (zI a) :: rest)) :=
  lv_if_ne hexec hb hdg ht (fun z => kt (fun y => z ((zI_eq0 ha).mpr y))) (fun z => kf ((zI_eq0 ha).mp z))
theorem z_lcmp_ne (hexec : p.tables.exec = Jvm.exec) (hb : c.code = cc) {x y : Int64} {a b : Int} {off : Int} {tgt : Nat} (hd1 : decode cc pc = .ok (.lcmp, 1)) (hdg : decode cc (pc + 1) = .ok (.ifCond .ne off, 3)) (ht : ((pc + 1 : Nat) : Int) + off = (tgt : Int)) (hx : x.toInt = a) (hy : y.toInt = b)
    (kt : ¬ a = b → W p l e R s m args below meth c H locs cells slots Q (F0 m (tgt) ls (rest))) (kf : a = b → W p l e R s m args below meth c H locs cells slots Q (F0 m (pc + 4) ls (rest))) : W p l e R s m args below meth c H locs cells slots Q (F0 m (pc) ls (.long y :: .long x :: rest)) := by
  refine W.lcmp hexec hb hd1 ?_
  rw [lg_cmp_z hx hy]
  refine z_if_ne (pc := pc + 1) hexec hb hdg ht (by split <;> (try split) <;> omega) (fun z => kt ?_) (fun z => kf ?_) <;> (split at z <;> (try split at z) <;> omega)
theorem z_icmp_lt (hexec : p.tables.exec = Jvm.exec) (hb : c.code = cc) {a b : Int} {off : Int} {tgt : Nat} (hdg : decode cc pc = .ok (.if_icmp .lt off, 3)) (ht : (pc : Int) + off = (tgt : Int)) (ha : -2147483648 ≤ a ∧ a < 2147483648) (hb2 : -2147483648 ≤ b ∧ b < 2147483648)
    (kt : a < b → W p l e R s m args below meth c H locs cells slots Q (F0 m (tgt) ls (rest))) (kf : b ≤ a → W p l e R s m args below meth c H locs cells slots Q (F0 m (pc + 3) ls (rest))) : W p l e R s m args below meth c H locs cells slots Q (F0 m (pc) ls (.int (zI b) :: .int (zI a) :: rest)) :=
  lv_icmp_lt hexec hb hdg ht (fun z => kt ((zI_lt ha hb2).mp z)) (fun z => kf (by rw [zI_lt ha hb2] at z; omega))
theorem z_if_lt (hexec : p.tables.exec = Jvm.exec) (hb : c.code = cc) {a : Int} {off : Int} {tgt : Nat} (hdg : decode cc pc = .ok (.ifCond .lt off, 3)) (ht : (pc : Int) + off = (tgt : Int)) (ha : -2147483648 ≤ a ∧ a < 2147483648)
    (kt : a < 0 → W p l e R s m args below meth c H locs cells slots Q (F0 m (tgt) ls (rest))) (kf : 0 ≤ a → W p l e R s m args below meth c H locs cells slots Q (F0 m (pc + 3) ls (rest))) : W p l e R s m args below meth c H locs cells slots Q (F0 m (pc) ls (.int (zI a) :: rest)) :=
  lv_if_lt hexec hb hdg ht (fun z => kt ((zI_lt0 ha).mp z)) (fun z => kf (by rw [zI_lt0 ha] at z; omega))
theorem z_lcmp_lt (hexec : p.tables.exec = Jvm.exec) (hb : c.code = cc) {x y : Int64} {a b : Int} {off : Int} {tgt : Nat} (hd1 : decode cc pc = .ok (.lcmp, 1)) (hdg : decode cc (pc + 1) = .ok (.ifCond .lt off, 3)) (ht : ((pc + 1 : Nat) : Int) + off = (tgt : Int)) (hx : x.toInt = a) (hy : y.toInt = b)
    (kt : a < b → W p l e R s m args below meth c H locs cells slots Q (F0 m (tgt) ls (rest))) (kf : b ≤ a → W p l e R s m args below meth c H locs cells slots Q (F0 m (pc + 4) ls (rest))) : W p l e R s m args below meth c H locs cells slots Q (F0 m (pc) ls (.long y :: .long x :: rest)) := by
  refine W.lcmp hexec hb hd1 ?_
  rw [lg_cmp_z hx hy]
  refine z_if_lt (pc := pc + 1) hexec hb hdg ht (by split <;> (try split) <;> omega) (fun z => kt ?_) (fun z => kf ?_) <;> (split at z <;> (try split at z) <;> omega)
theorem z_icmp_ge (hexec : p.tables.exec = Jvm.exec) (hb : c.code = cc) {a b : Int} {off : Int} {tgt : Nat} (hdg : decode cc pc = .ok (.if_icmp .ge off, 3)) (ht : (pc : Int) + off = (tgt : Int)) (ha : -2147483648 ≤ a ∧ a < 2147483648) (hb2 : -2147483648 ≤ b ∧ b < 2147483648)
    (kt : b ≤ a → W p l e R s m args below meth c H locs cells slots Q (F0 m (tgt) ls (rest))) (kf : a < b → W p l e R s m args below meth c H locs cells slots Q (F0 m (pc + 3) ls (rest))) : W p l e R s m args below meth c H locs cells slots Q (F0 m (pc) ls (.int (zI b) :: .int (zI a) :: rest)) :=
  lv_icmp_ge hexec hb hdg ht (fun z => kt ((zI_le hb2 ha).mp z)) (fun z => kf (by rw [zI_le hb2 ha] at z; omega))
theorem z_if_ge (hexec : p.tables.exec = Jvm.exec) (hb : c.code = cc) {a : Int} {off : Int} {tgt : Nat} (hdg : decode cc pc = .ok (.ifCond .ge off, 3)) (ht : (pc : Int) + off = (tgt : Int)) (ha : -2147483648 ≤ a ∧ a < 2147483648)
    (kt : 0 ≤ a → W p l e R s m args below meth c H locs cells slots Q (F0 m (tgt) ls (rest))) (kf : a < 0 → W p l e R s m args below meth c H locs cells slots Q (F0 m (pc + 3) ls (rest))) : W p l e R s m args below meth c H locs cells slots Q (F0 m (pc) ls (.int (zI a) :: rest)) :=
  lv_if_ge hexec hb hdg ht (fun z => kt ((zI_0le ha).mp z)) (fun z => kf (by rw [zI_0le ha] at z; omega))
theorem z_lcmp_ge (hexec : p.tables.exec = Jvm.exec) (hb : c.code = cc) {x y : Int64} {a b : Int} {off : Int} {tgt : Nat} (hd1 : decode cc pc = .ok (.lcmp, 1)) (hdg : decode cc (pc + 1) = .ok (.ifCond .ge off, 3)) (ht : ((pc + 1 : Nat) : Int) + off = (tgt : Int)) (hx : x.toInt = a) (hy : y.toInt = b)
    (kt : b ≤ a → W p l e R s m args below meth c H locs cells slots Q (F0 m (tgt) ls (rest))) (kf : a < b → W p l e R s m args below meth c H locs cells slots Q (F0 m (pc + 4) ls (rest))) : W p l e R s m args below meth c H locs cells slots Q (F0 m (pc) ls (.long y :: .long x :: rest)) := by
  refine W.lcmp hexec hb hd1 ?_
  rw [lg_cmp_z hx hy]
  refine z_if_ge (pc := pc + 1) hexec hb hdg ht (by split <;> (try split) <;> omega) (fun z => kt ?_) (fun z => kf ?_) <;> (split at z <;> (try split at z) <;> omega)
theorem z_icmp_gt (hexec : p.tables.exec = Jvm.exec) (hb : c.code = cc) {a b : Int} {off : Int} {tgt : Nat} (hdg : decode cc pc = .ok (.if_icmp .gt off, 3)) (ht : (pc : Int) + off = (tgt : Int)) (ha : -2147483648 ≤ a ∧ a < 2147483648) (hb2 : -2147483648 ≤ b ∧ b < 2147483648)
    (kt : b < a → W p l e R s m args below meth c H locs cells slots Q (F0 m (tgt) ls (rest))) (kf : a ≤ b → W p l e R s m args below meth c H locs cells slots Q (F0 m (pc + 3) ls (rest))) : W p l e R s m args below meth c H locs cells slots Q (F0 m (pc) ls (.int (zI b) :: .int (zI a) :: rest)) :=
  lv_icmp_gt hexec hb hdg ht (fun z => kt ((zI_lt hb2 ha).mp z)) (fun z => kf (by rw [zI_lt hb2 ha] at z; omega))
theorem z_if_gt (hexec : p.tables.exec = Jvm.exec) (hb : c.code = cc) {a : Int} {off : Int} {tgt : Nat} (hdg : decode cc pc = .ok (.ifCond .gt off, 3)) (ht : (pc : Int) + off = (tgt : Int)) (ha : -2147483648 ≤ a ∧ a < 2147483648)
    (kt : 0 < a → W p l e R s m args below meth c H locs cells slots Q (F0 m (tgt) ls (rest))) (kf : a ≤ 0 → W p l e R s m args below meth c H locs cells slots Q (F0 m (pc + 3) ls (rest))) : W p l e R s m args below meth c H locs cells slots Q (F0 m (pc) ls (.int (zI a) :: rest)) :=
  lv_if_gt hexec hb hdg ht (fun z => kt ((zI_0lt ha).mp z)) (fun z => kf (by rw [zI_0lt ha] at z; omega))
theorem z_lcmp_gt (hexec : p.tables.exec = Jvm.exec) (hb : c.code = cc) {x y : Int64} {a b : Int} {off : Int} {tgt : Nat} (hd1 : decode cc pc = .ok (.lcmp, 1)) (hdg : decode cc (pc + 1) = .ok (.ifCond .gt off, 3)) (ht : ((pc + 1 : Nat) : Int) + off = (tgt : Int)) (hx : x.toInt = a) (hy : y.toInt = b)
    (kt : b < a → W p l e R s m args below meth c H locs cells slots Q (F0 m (tgt) ls (rest))) (kf : a ≤ b → W p l e R s m args below meth c H locs cells slots Q (F0 m (pc + 4) ls (rest))) : W p l e R s m args below meth c H locs cells slots Q (F0 m (pc) ls (.long y :: .long x :: rest)) := by
  refine W.lcmp hexec hb hd1 ?_
  rw [lg_cmp_z hx hy]
  refine z_if_gt (pc := pc + 1) hexec hb hdg ht (by split <;> (try split) <;> omega) (fun z => kt ?_) (fun z => kf ?_) <;> (split at z <;> (try split at z) <;> omega)
theorem z_icmp_le (hexec : p.tables.exec = Jvm.exec) (hb : c.code = cc) {a b : Int} {off : Int} {tgt : Nat} (hdg : decode cc pc = .ok (.if_icmp .le off, 3)) (ht : (pc : Int) + off = (tgt : Int)) (ha : -2147483648 ≤ a ∧ a < 2147483648) (hb2 : -2147483648 ≤ b ∧ b < 2147483648)
    (kt : a ≤ b → W p l e R s m args below meth c H locs cells slots Q (F0 m (tgt) ls (rest))) (kf : b < a → W p l e R s m args below meth c H locs cells slots Q (F0 m (pc + 3) ls (rest))) : W p l e R s m args below meth c H locs cells slots Q (F0 m (pc) ls (.int (zI b) :: .int (zI a) :: rest)) :=
  lv_icmp_le hexec hb hdg ht (fun z => kt ((zI_le ha hb2).mp z)) (fun z => kf (by rw [zI_le ha hb2] at z; omega))
theorem z_if_le (hexec : p.tables.exec = Jvm.exec) (hb : c.code = cc) {a : Int} {off : Int} {tgt : Nat} (hdg : decode cc pc = .ok (.ifCond .le off, 3)) (ht : (pc : Int) + off = (tgt : Int)) (ha : -2147483648 ≤ a ∧ a < 2147483648)
    (kt : a ≤ 0 → W p l e R s m args below meth c H locs cells slots Q (F0 m (tgt) ls (rest))) (kf : 0 < a → W p l e R s m args below meth c H locs cells slots Q (F0 m (pc + 3) ls (rest))) : W p l e R s m args below meth c H locs cells slots Q (F0 m (pc) ls (.int (zI a) :: rest)) :=
  lv_if_le hexec hb hdg ht (fun z => kt ((zI_le0 ha).mp z)) (fun z => kf (by rw [zI_le0 ha] at z; omega))
theorem z_lcmp_le (hexec : p.tables.exec = Jvm.exec) (hb : c.code = cc) {x y : Int64} {a b : Int} {off : Int} {tgt : Nat} (hd1 : decode cc pc = .ok (.lcmp, 1)) (hdg : decode cc (pc + 1) = .ok (.ifCond .le off, 3)) (ht : ((pc + 1 : Nat) : Int) + off = (tgt : Int)) (hx : x.toInt = a) (hy : y.toInt = b)
    (kt : a ≤ b → W p l e R s m args below meth c H locs cells slots Q (F0 m (tgt) ls (rest))) (kf : b < a → W p l e R s m args below meth c H locs cells slots Q (F0 m (pc + 4) ls (rest))) : W p l e R s m args below meth c H locs cells slots Q (F0 m (pc) ls (.long y :: .long x :: rest)) := by
  refine W.lcmp hexec hb hd1 ?_
  rw [lg_cmp_z hx hy]
  refine z_if_le (pc := pc + 1) hexec hb hdg ht (by split <;> (try split) <;> omega) (fun z => kt ?_) (fun z => kf ?_) <;> (split at z <;> (try split at z) <;> omega)
theorem z_re {e1 e2 : Int} (h : e1 = e2) (k : W p l e R s m args below meth c H locs cells slots Q (F0 m (pc) ls (.int (zI e2) :: rest))) : W p l e R s m args below meth c H locs cells slots Q (F0 m (pc) ls (.int (zI e1) :: rest)) := by subst h; exact k
theorem n_re {e1 e2 : Nat} (h : e1 = e2) (k : W p l e R s m args below meth c H locs cells slots Q (F0 m (pc) ls (.long (lN e2) :: rest))) : W p l e R s m args below meth c H locs cells slots Q (F0 m (pc) ls (.long (lN e1) :: rest)) := by subst h; exact k
theorem zl_re {e1 e2 : Int} (h : e1 = e2) (k : W p l e R s m args below meth c H locs cells slots Q (F0 m (pc) ls (.long (zL e2) :: rest))) : W p l e R s m args below meth c H locs cells slots Q (F0 m (pc) ls (.long (zL e1) :: rest)) := by subst h; exact k
theorem x_re {e1 e2 : Int32} (h : e1 = e2) (k : W p l e R s m args below meth c H locs cells slots Q (F0 m (pc) ls (.int e2 :: rest))) : W p l e R s m args below meth c H locs cells slots Q (F0 m (pc) ls (.int e1 :: rest)) := by subst h; exact k
theorem y_re {e1 e2 : Int64} (h : e1 = e2) (k : W p l e R s m args below meth c H locs cells slots Q (F0 m (pc) ls (.long e2 :: rest))) : W p l e R s m args below meth c H locs cells slots Q (F0 m (pc) ls (.long e1 :: rest)) := by subst h; exact k
theorem q_re {e1 e2 : Option Nat} (h : e1 = e2) (k : W p l e R s m args below meth c H locs cells slots Q (F0 m (pc) ls (va_rf e2 :: rest))) : W p l e R s m args below meth c H locs cells slots Q (F0 m (pc) ls (va_rf e1 :: rest)) := by subst h; exact k
theorem z_ifb_eq (hexec : p.tables.exec = Jvm.exec) (hb : c.code = cc) {P : Prop} [Decidable P] {off : Int} {tgt : Nat} (hdg : decode cc pc = .ok (.ifCond .eq off, 3)) (ht : (pc : Int) + off = (tgt : Int))
    (kt : ¬ P → W p l e R s m args below meth c H locs cells slots Q (F0 m (tgt) ls (rest))) (kf : P → W p l e R s m args below meth c H locs cells slots Q (F0 m (pc + 3) ls (rest))) : W p l e R s m args below meth c H locs cells slots Q (F0 m (pc) ls (.int (zI (bP P)) :: rest)) :=
  z_if_eq hexec hb hdg ht (bP_rng P) (fun z => kt (bP_f z)) (fun z => kf (bP_t z))
theorem z_ifb_ne (hexec : p.tables.exec = Jvm.exec) (hb : c.code = cc) {P : Prop} [Decidable P] {off : Int} {tgt : Nat} (hdg : decode cc pc = .ok (.ifCond .ne off, 3)) (ht : (pc : Int) + off = (tgt : Int))
    (kt : P → W p l e R s m args below meth c H locs cells slots Q (F0 m (tgt) ls (rest))) (kf : ¬ P → W p l e R s m args below meth c H locs cells slots Q (F0 m (pc + 3) ls (rest))) : W p l e R s m args below meth c H locs cells slots Q (F0 m (pc) ls (.int (zI (bP P)) :: rest)) :=
  z_if_ne hexec hb hdg ht (bP_rng P) (fun z => kt (bP_t z)) (fun z => kf (bP_f z))
theorem z_mmax (hexec : p.tables.exec = Jvm.exec) (hb : c.code = cc) (hml : c.maxLocals = ls.size) {own : String} {index : Nat} (hown : s.vm.findClass own = some m.cls) (hlink : (Cond.methodLink own index Lib.Math.max.name).before args s = true) (hstat : (Cond.static Lib.Math.max.name).before args s = true) (hini : (Cond.initialized "java/lang/Math").before args s = true) (hcode : (Cond.code Lib.Math.max.name Lib.Math.max.code 2 (some .int)).before args s = true) (hframes : 1 ≤ R.frames) (hlocals : (rest.map fun v => v.category).sum + 13 ≤ R.locals) (hc : cells ≤ R.cells) (hs : slots ≤ R.slots) {a b : Int} (ha : -2147483648 ≤ a ∧ a < 2147483648) (hb2 : -2147483648 ≤ b ∧ b < 2147483648) (hdg : decode cc pc = .ok (.invokestatic index, 3)) (k : W p l e R s m args below meth c H locs cells slots Q (F0 m (pc + 3) ls (.int (zI (max a b)) :: rest))) : W p l e R s m args below meth c H locs cells slots Q (F0 m (pc) ls (.int (zI b) :: .int (zI a) :: rest)) := by
  refine va_mmax hexec hb hml hown hlink hstat hini hcode hframes hlocals hc hs hdg ?_
  have h : (if zI a < zI b then zI b else zI a) = zI (max a b) := by
    by_cases q : a < b
    · rw [if_pos ((zI_lt ha hb2).mpr q), show max a b = b by omega]
    · rw [if_neg (fun z => q ((zI_lt ha hb2).mp z)), show max a b = a by omega]
  rw [h]; exact k
theorem z_mmin (hexec : p.tables.exec = Jvm.exec) (hb : c.code = cc) (hml : c.maxLocals = ls.size) {own : String} {index : Nat} (hown : s.vm.findClass own = some m.cls) (hlink : (Cond.methodLink own index Lib.Math.min.name).before args s = true) (hstat : (Cond.static Lib.Math.min.name).before args s = true) (hini : (Cond.initialized "java/lang/Math").before args s = true) (hcode : (Cond.code Lib.Math.min.name Lib.Math.min.code 2 (some .int)).before args s = true) (hframes : 1 ≤ R.frames) (hlocals : (rest.map fun v => v.category).sum + 13 ≤ R.locals) (hc : cells ≤ R.cells) (hs : slots ≤ R.slots) {a b : Int} (ha : -2147483648 ≤ a ∧ a < 2147483648) (hb2 : -2147483648 ≤ b ∧ b < 2147483648) (hdg : decode cc pc = .ok (.invokestatic index, 3)) (k : W p l e R s m args below meth c H locs cells slots Q (F0 m (pc + 3) ls (.int (zI (min a b)) :: rest))) : W p l e R s m args below meth c H locs cells slots Q (F0 m (pc) ls (.int (zI b) :: .int (zI a) :: rest)) := by
  refine va_mmin hexec hb hml hown hlink hstat hini hcode hframes hlocals hc hs hdg ?_
  have h : (if zI b < zI a then zI b else zI a) = zI (min a b) := by
    by_cases q : b < a
    · rw [if_pos ((zI_lt hb2 ha).mpr q), show min a b = b by omega]
    · rw [if_neg (fun z => q ((zI_lt hb2 ha).mp z)), show min a b = a by omega]
  rw [h]; exact k
theorem z_mabs (hexec : p.tables.exec = Jvm.exec) (hb : c.code = cc) (hml : c.maxLocals = ls.size) {own : String} {index : Nat} (hown : s.vm.findClass own = some m.cls) (hlink : (Cond.methodLink own index Lib.Math.abs.name).before args s = true) (hstat : (Cond.static Lib.Math.abs.name).before args s = true) (hini : (Cond.initialized "java/lang/Math").before args s = true) (hcode : (Cond.code Lib.Math.abs.name Lib.Math.abs.code 1 (some .int)).before args s = true) (hframes : 1 ≤ R.frames) (hlocals : (rest.map fun v => v.category).sum + 13 ≤ R.locals) (hc : cells ≤ R.cells) (hs : slots ≤ R.slots) {a : Int} (ha : -2147483648 < a ∧ a < 2147483648) (hdg : decode cc pc = .ok (.invokestatic index, 3)) (k : W p l e R s m args below meth c H locs cells slots Q (F0 m (pc + 3) ls (.int (zI (a.natAbs : Int)) :: rest))) : W p l e R s m args below meth c H locs cells slots Q (F0 m (pc) ls (.int (zI a) :: rest)) := by
  refine va_mabs hexec hb hml hown hlink hstat hini hcode hframes hlocals hc hs hdg ?_
  have h : (if 0 ≤ zI a then zI a else 0 - zI a) = zI (a.natAbs : Int) := by
    by_cases q : 0 ≤ a
    · rw [if_pos ((zI_0le (by omega)).mpr q), show (a.natAbs : Int) = a by omega]
    · rw [if_neg (fun z => q ((zI_0le (by omega)).mp z)), show (a.natAbs : Int) = 0 - a by omega]
      exact (Int32.ofInt_sub 0 a).symm
  rw [h]; exact k
theorem z_mminl (hexec : p.tables.exec = Jvm.exec) (hb : c.code = cc) (hml : c.maxLocals = ls.size) {own : String} {index : Nat} (hown : s.vm.findClass own = some m.cls) (hlink : (Cond.methodLink own index Lib.MathLoose.min_long.x).before args s = true) (hstat : (Cond.static Lib.MathLoose.min_long.x).before args s = true) (hini : (Cond.initialized "java/lang/Math").before args s = true) (hcode : (Cond.code Lib.MathLoose.min_long.x Lib.MathLoose.min_long.code 4 (some .long)).before args s = true) (hframes : 1 ≤ R.frames) (hlocals : (rest.map fun v => v.category).sum + 15 ≤ R.locals) (hc : cells ≤ R.cells) (hs : slots ≤ R.slots) {a b : Nat} (ha : a < 9223372036854775808) (hb2 : b < 9223372036854775808) (hdg : decode cc pc = .ok (.invokestatic index, 3)) (k : W p l e R s m args below meth c H locs cells slots Q (F0 m (pc + 3) ls (.long (lN (min a b)) :: rest))) : W p l e R s m args below meth c H locs cells slots Q (F0 m (pc) ls (.long (lN b) :: .long (lN a) :: rest)) := by
  refine va_mmin_long hexec hb hml hown hlink hstat hini hcode hframes hlocals hc hs hdg ?_
  have h : (if lN b < lN a then lN b else lN a) = lN (min a b) := by
    have e : lN b < lN a ↔ b < a := by rw [Int64.lt_iff_toInt_lt, lN_toI ha, lN_toI hb2]; omega
    by_cases q : b < a
    · rw [if_pos (e.mpr q), show min a b = b by omega]
    · rw [if_neg (fun z => q (e.mp z)), show min a b = a by omega]
  rw [h]; exact k
theorem z_tableIn (hexec : p.tables.exec = Jvm.exec) (hb : c.code = cc) {dflt lo hi : Int} {offs : Array Int} {len : Nat} {b : Int} {off : Int} {tgt : Nat} (q : Nat) (hdg : decode cc pc = .ok (.tableswitch dflt lo hi offs, len)) (hb2 : -2147483648 ≤ b ∧ b < 2147483648) (he : b = lo + q) (hh : b ≤ hi) (ho : offs[q]? = some off) (ht : (pc : Int) + off = (tgt : Int)) (k : W p l e R s m args below meth c H locs cells slots Q (F0 m (tgt) ls (rest))) : W p l e R s m args below meth c H locs cells slots Q (F0 m (pc) ls (.int (zI b) :: rest)) :=
  lv_tableIn hexec hb hdg (by rw [zI_toInt hb2]; omega) (by rw [zI_toInt hb2]; omega) (by rw [zI_toInt hb2, show (b - lo).toNat = q by omega]; exact ho) ht k
theorem z_tableOut (hexec : p.tables.exec = Jvm.exec) (hb : c.code = cc) {dflt lo hi : Int} {offs : Array Int} {len : Nat} {b : Int} {tgt : Nat} (hdg : decode cc pc = .ok (.tableswitch dflt lo hi offs, len)) (hb2 : -2147483648 ≤ b ∧ b < 2147483648) (he : b < lo ∨ hi < b) (ht : (pc : Int) + dflt = (tgt : Int)) (k : W p l e R s m args below meth c H locs cells slots Q (F0 m (tgt) ls (rest))) : W p l e R s m args below meth c H locs cells slots Q (F0 m (pc) ls (.int (zI b) :: rest)) :=
  lv_tableOut hexec hb hdg (by rw [zI_toInt hb2]; exact he) ht k
theorem n_iushr (hexec : p.tables.exec = Jvm.exec) (hb : c.code = cc) {a q : Nat} (ha : a < 4294967296) (hq : q < 32) (hdg : decode cc pc = .ok (.iushr, 1))
    (k : W p l e R s m args below meth c H locs cells slots Q (F0 m (pc + 1) ls (.int (zI ((a >>> q : Nat) : Int)) :: rest))) : W p l e R s m args below meth c H locs cells slots Q (F0 m (pc) ls (.int (zI (q : Int)) :: .int (zI (a : Int)) :: rest)) := by
  exact lv_iushr hexec hb hdg (by rw [← zI_nI, ← zI_nI, ← zI_nI]; exact nI_ushr ha hq) k
end ZR
end
section
/-! the numbers behind both sides: rows as their numbers' bits -/
def pm (x i : Nat) : Int := if x.testBit i then -1 else 1
theorem pm_or (x i : Nat) : pm x i = 1 ∨ pm x i = -1 := by unfold pm; split <;> simp
def si (f : Nat → Int) : Nat → Int
  | 0 => 0
  | n + 1 => si f n + f n
theorem si_cong {f g : Nat → Int} : ∀ {n : Nat}, (∀ k, k < n → f k = g k) → si f n = si g n
  | 0, _ => rfl
  | n + 1, h => by
    show si f n + f n = si g n + g n
    rw [si_cong (fun k hk => h k (by omega)), h n (by omega)]
theorem si_bd {f : Nat → Int} : ∀ {n : Nat}, (∀ k, k < n → -1 ≤ f k ∧ f k ≤ 1) → -(n : Int) ≤ si f n ∧ si f n ≤ n
  | 0, _ => by simp [si]
  | n + 1, h => by
    have h1 := si_bd (f := f) (n := n) (fun k hk => h k (by omega))
    have h2 := h n (by omega)
    show -((n + 1 : Nat) : Int) ≤ si f n + f n ∧ si f n + f n ≤ ((n + 1 : Nat) : Int)
    omega
theorem pm_mul (x y i j : Nat) : -1 ≤ pm x i * pm y j ∧ pm x i * pm y j ≤ 1 := by
  rcases pm_or x i with h | h <;> rcases pm_or y j with g | g <;> rw [h, g] <;> decide
def oS (n x k : Nat) : Int := si (fun i => pm x i * pm x (i + k)) (n - k)
def rS (n x k : Nat) : Int := si (fun i => pm x i * pm x ((i + k) % n)) n
theorem oS_bd (n x k : Nat) : -(n : Int) ≤ oS n x k ∧ oS n x k ≤ n := by
  have h := si_bd (f := fun i => pm x i * pm x (i + k)) (n := n - k) (fun j _ => pm_mul x x j (j + k))
  unfold oS
  omega
theorem rS_bd (n x k : Nat) : -(n : Int) ≤ rS n x k ∧ rS n x k ≤ n := si_bd (f := fun i => pm x i * pm x ((i + k) % n)) (n := n) (fun j _ => pm_mul x x j ((j + k) % n))
/-- how many of the lowest places are set -/
def pc (x : Nat) : Nat → Nat
  | 0 => 0
  | n + 1 => pc x n + (if x.testBit n then 1 else 0)
theorem pc_le (x : Nat) : ∀ n, pc x n ≤ n
  | 0 => Nat.le_refl 0
  | n + 1 => by
    have h := pc_le x n
    show pc x n + (if x.testBit n then 1 else 0) ≤ n + 1
    split <;> omega
theorem pc_cong {x y : Nat} : ∀ {n : Nat}, (∀ i, i < n → x.testBit i = y.testBit i) → pc x n = pc y n
  | 0, _ => rfl
  | n + 1, h => by
    show pc x n + (if x.testBit n then 1 else 0) = pc y n + (if y.testBit n then 1 else 0)
    rw [pc_cong (fun i hi => h i (by omega)), h n (by omega)]
theorem pc_hi {x m : Nat} : ∀ {n : Nat}, m ≤ n → (∀ i, m ≤ i → x.testBit i = false) → pc x n = pc x m
  | 0, h, _ => by rw [Nat.le_zero.mp h]
  | n + 1, h, g => by
    rcases Nat.lt_or_ge n m with q | q
    · rw [show m = n + 1 by omega]
    · show pc x n + (if x.testBit n then 1 else 0) = pc x m
      rw [g n q, pc_hi q g]
      rfl
theorem tb_mask (x m i : Nat) : (x &&& (2 ^ m - 1)).testBit i = (decide (i < m) && x.testBit i) := by
  rw [Nat.testBit_and, Nat.testBit_two_pow_sub_one, Bool.and_comm]
theorem pc_mask (y : Nat) {m n : Nat} (h : m ≤ n) : pc (y &&& (2 ^ m - 1)) n = pc y m := by
  rw [pc_hi h (fun i hi => by rw [tb_mask]; simp; intro; omega)]
  exact pc_cong (fun i hi => by rw [tb_mask]; simp [hi])
theorem tb_shr (x k i : Nat) : (x >>> k).testBit i = x.testBit (k + i) := Nat.testBit_shiftRight x
theorem tb_shl (x k i : Nat) : (x <<< k).testBit i = (decide (k ≤ i) && x.testBit (i - k)) := by rw [Nat.testBit_shiftLeft]
theorem tb_lt {x n i : Nat} (h : x < 2 ^ n) (hi : n ≤ i) : x.testBit i = false := Nat.testBit_lt_two_pow (Nat.lt_of_lt_of_le h (Nat.pow_le_pow_right (by decide) hi))
theorem lt_tb {x n : Nat} (h : ∀ i, n ≤ i → x.testBit i = false) : x < 2 ^ n := Nat.lt_pow_two_of_testBit x h
theorem pm_x (x y i j : Nat) : pm x i * pm y j = 1 - 2 * ((if (x.testBit i ^^ y.testBit j) then 1 else 0 : Nat) : Int) := by
  unfold pm
  cases x.testBit i <;> cases y.testBit j <;> rfl
theorem si_pc {f : Nat → Int} {y : Nat} : ∀ {n : Nat}, (∀ i, i < n → f i = 1 - 2 * ((if y.testBit i then 1 else 0 : Nat) : Int)) → si f n = (n : Int) - 2 * (pc y n : Int)
  | 0, _ => by simp [si, pc]
  | n + 1, h => by
    have h1 := si_pc (f := f) (y := y) (n := n) (fun i hi => h i (by omega))
    have h2 := h n (by omega)
    show si f n + f n = ((n + 1 : Nat) : Int) - 2 * ((pc y n + (if y.testBit n then 1 else 0) : Nat) : Int)
    rw [h1, h2]
    omega
theorem oS_pc {n x k : Nat} (hn : n ≤ 32) : oS n x k = ((n - k : Nat) : Int) - 2 * (pc ((x ^^^ (x >>> k)) &&& (2 ^ (n - k) - 1)) 32 : Int) := by
  rw [pc_mask _ (by omega)]
  exact si_pc (fun i hi => by rw [pm_x, Nat.testBit_xor, tb_shr, Nat.add_comm k i])
theorem rS_tb {n x k i : Nat} (hx : x < 2 ^ n) (hk : k < n) (hi : i < n) : (((x >>> k) ||| (x <<< (n - k))) &&& (2 ^ n - 1)).testBit i = x.testBit ((i + k) % n) := by
  rw [tb_mask, Nat.testBit_or, tb_shr, tb_shl]
  rcases Nat.lt_or_ge (i + k) n with q | q
  · rw [Nat.mod_eq_of_lt q, Nat.add_comm k i]
    simp [hi, show ¬ n - k ≤ i by omega]
  · rw [tb_lt hx (show n ≤ k + i by omega), show (i + k) % n = i - (n - k) by rw [Nat.mod_eq_sub_mod q, Nat.mod_eq_of_lt (by omega)]; omega]
    simp [hi, show n - k ≤ i by omega]
theorem rS_pc {n x k : Nat} (hn : n ≤ 32) (hx : x < 2 ^ n) (hk : k < n) : rS n x k = (n : Int) - 2 * (pc (x ^^^ (((x >>> k) ||| (x <<< (n - k))) &&& (2 ^ n - 1))) 32 : Int) := by
  rw [pc_hi hn (fun i hi => by rw [Nat.testBit_xor, tb_lt hx hi, tb_mask]; simp; intro; omega)]
  exact si_pc (fun i hi => by rw [pm_x, Nat.testBit_xor, rS_tb hx hk hi])
def tot (n x : Nat) : Int := si (pm x) n
theorem tot_pc {n x : Nat} (hn : n ≤ 32) (hx : x < 2 ^ n) : tot n x = (n : Int) - 2 * (pc x 32 : Int) := by
  rw [pc_hi hn (fun i hi => tb_lt hx hi)]
  exact si_pc (fun i hi => by unfold pm; cases x.testBit i <;> rfl)
def chS (n x : Nat) : Nat := pc (x ^^^ (x >>> 1)) (n - 1)
theorem chS_pc {n x : Nat} (hn : n ≤ 32) : chS n x = pc ((x ^^^ (x >>> 1)) &&& (2 ^ (n - 1) - 1)) 32 := (pc_mask _ (by omega)).symm
/-- the greatest of the open sums 1 to m - 1 without their signs -/
def pkL (n x : Nat) : Nat → Nat
  | 0 => 0
  | m + 1 => if m = 0 then 0 else max (pkL n x m) (oS n x m).natAbs
def enL (n x : Nat) : Nat → Int
  | 0 => 0
  | m + 1 => if m = 0 then 0 else enL n x m + oS n x m * oS n x m
theorem pkL_s (n x : Nat) {m : Nat} (h : 1 ≤ m) : pkL n x (m + 1) = max (pkL n x m) (oS n x m).natAbs := by
  show (if m = 0 then 0 else max (pkL n x m) (oS n x m).natAbs) = _
  rw [if_neg (by omega)]
theorem enL_s (n x : Nat) {m : Nat} (h : 1 ≤ m) : enL n x (m + 1) = enL n x m + oS n x m * oS n x m := by
  show (if m = 0 then 0 else enL n x m + oS n x m * oS n x m) = _
  rw [if_neg (by omega)]
theorem pkL_bd (n x : Nat) : ∀ m, pkL n x m ≤ n
  | 0 => Nat.zero_le n
  | m + 1 => by
    have h := pkL_bd n x m
    have g := oS_bd n x m
    show (if m = 0 then 0 else max (pkL n x m) (oS n x m).natAbs) ≤ n
    split <;> omega
def ff (f : Nat → Int) : Nat → Nat → Nat
  | _, 0 => 0
  | k, m + 1 => if f k ≠ 0 then k else ff f (k + 1) m
theorem ff_s (f : Nat → Int) {k n : Nat} (h : k < n) : ff f k (n - k) = if f k ≠ 0 then k else ff f (k + 1) (n - (k + 1)) := by
  rw [show n - k = (n - (k + 1)) + 1 by omega]
  rfl
theorem ff_e (f : Nat → Int) {k n : Nat} (h : n ≤ k) : ff f k (n - k) = 0 := by rw [show n - k = 0 by omega]; rfl
theorem ff_le (f : Nat → Int) : ∀ m k, ff f k m ≤ k + m
  | 0, k => Nat.zero_le _
  | m + 1, k => by
    have h := ff_le f m (k + 1)
    show (if f k ≠ 0 then k else ff f (k + 1) m) ≤ _
    split <;> omega
/-- a number by its bits -/
def ob (f : Nat → Bool) : Nat → Nat
  | 0 => 0
  | n + 1 => ob f n ||| (if f n then 1 <<< n else 0)
theorem ob_tb (f : Nat → Bool) (i : Nat) : ∀ n, (ob f n).testBit i = (decide (i < n) && f i)
  | 0 => by simp [ob]
  | n + 1 => by
    show (ob f n ||| (if f n then 1 <<< n else 0)).testBit i = _
    rw [Nat.testBit_or, ob_tb f i n]
    by_cases h : i = n
    · subst h
      cases hf : f i <;> simp [Nat.one_shiftLeft]
    · have e : (if f n then 1 <<< n else 0 : Nat).testBit i = false := by
        split
        · rw [Nat.one_shiftLeft, Nat.testBit_two_pow]
          simp; omega
        · exact Nat.zero_testBit i
      rw [e]
      by_cases q : i < n
      · simp [q, show i < n + 1 by omega]
      · simp [q, show ¬ i < n + 1 by omega]
theorem ob_lt (f : Nat → Bool) (n : Nat) : ob f n < 2 ^ n := lt_tb (fun i hi => by rw [ob_tb]; simp; intro; omega)
theorem ob_eq {x n : Nat} {f : Nat → Bool} (hx : x < 2 ^ n) (h : ∀ i, i < n → x.testBit i = f i) : x = ob f n := by
  apply Nat.eq_of_testBit_eq
  intro i
  rw [ob_tb]
  by_cases q : i < n
  · simp [q, h i q]
  · rw [tb_lt hx (by omega)]; simp [q]
theorem ob_cong {f g : Nat → Bool} {n : Nat} (h : ∀ i, i < n → f i = g i) : ob f n = ob g n := ob_eq (ob_lt f n) (fun i hi => by rw [ob_tb]; simp [hi, h i hi])
end
section
/-! how many bits: the way Long.bitCount and Integer.bitCount go -/
def tJ (a y : Nat) : Nat := 2 ^ 8 * y + a
theorem tJ_and {a m : Nat} (y n : Nat) (ha : a < 256) (hm : m < 256) : tJ a y &&& tJ m n = tJ (a &&& m) (y &&& n) := by
  have h : a &&& m < 2 ^ 8 := Nat.lt_of_le_of_lt Nat.and_le_left ha
  apply Nat.eq_of_testBit_eq
  intro i
  unfold tJ
  rw [Nat.testBit_and, Nat.testBit_two_pow_mul_add _ ha, Nat.testBit_two_pow_mul_add _ hm, Nat.testBit_two_pow_mul_add _ h]
  split <;> rw [Nat.testBit_and]
def tG1 (M x : Nat) : Nat := x - ((x >>> 1) &&& M)
def tG2 (M x : Nat) : Nat := (x &&& M) + ((x >>> 2) &&& M)
def tG3 (M x : Nat) : Nat := (x + x >>> 4) &&& M
theorem tG1_d : ∀ a, a < 256 → ∀ r, r < 2 → ((a >>> 1) + 128 * r) &&& 0x55 = (a >>> 1) &&& 0x55 ∧ (a >>> 1) &&& 0x55 ≤ a ∧ a >>> 1 < 128 := by decide +kernel
theorem tG2_d : ∀ a, a < 256 → ∀ r, r < 4 → ((a >>> 2) + 64 * r) &&& 0x33 = (a >>> 2) &&& 0x33 ∧ a >>> 2 < 64 := by decide +kernel
theorem tG3_d : ∀ a, a < 69 → ∀ r, r < 5 → (a + (a >>> 4) + 16 * r) &&& 0x0f = (a + a >>> 4) &&& 0x0f ∧ a >>> 4 < 5 := by decide +kernel
theorem tB_d : ∀ a, a < 256 → tG1 0x55 a < 256 ∧ tG2 0x33 (tG1 0x55 a) < 69 ∧ tG2 0x33 (tG1 0x55 a) % 16 < 5 ∧ tG3 0x0f (tG2 0x33 (tG1 0x55 a)) = pc a 8 := by decide +kernel
theorem tG1_J {a y M : Nat} (ha : a < 256) : tG1 (tJ 0x55 M) (tJ a y) = tJ (tG1 0x55 a) (tG1 M y) := by
  have h := tG1_d a ha (y % 2) (Nat.mod_lt _ (by decide))
  have hy : (y >>> 1) &&& M ≤ y := Nat.le_trans Nat.and_le_left (Nat.shiftRight_le _ _)
  have e : tJ a y >>> 1 = tJ ((a >>> 1) + 128 * (y % 2)) (y >>> 1) := by
    simp only [tJ, Nat.shiftRight_eq_div_pow]
    omega
  unfold tG1
  rw [e, tJ_and _ _ (by omega) (by decide), h.1]
  unfold tJ
  omega
theorem tG2_J {a y M : Nat} (ha : a < 256) : tG2 (tJ 0x33 M) (tJ a y) = tJ (tG2 0x33 a) (tG2 M y) := by
  have h := tG2_d a ha (y % 4) (Nat.mod_lt _ (by decide))
  have e : tJ a y >>> 2 = tJ ((a >>> 2) + 64 * (y % 4)) (y >>> 2) := by
    simp only [tJ, Nat.shiftRight_eq_div_pow]
    omega
  unfold tG2
  rw [e, tJ_and y M ha (by decide), tJ_and (y >>> 2) M (by omega) (by decide), h.1]
  unfold tJ
  omega
theorem tG3_J {a y M : Nat} (ha : a < 69) (hy : y % 16 < 5) : tG3 (tJ 0x0f M) (tJ a y) = tJ (tG3 0x0f a) (tG3 M y) := by
  have h := tG3_d a ha (y % 16) hy
  have e : tJ a y + tJ a y >>> 4 = tJ (a + (a >>> 4) + 16 * (y % 16)) (y + y >>> 4) := by
    simp only [tJ, Nat.shiftRight_eq_div_pow]
    omega
  unfold tG3
  rw [e, tJ_and _ _ (by omega) (by decide), h.1]
theorem pc_J {a y : Nat} (ha : a < 256) : ∀ n, pc (tJ a y) (8 + n) = pc a 8 + pc y n
  | 0 => pc_cong (fun i hi => by unfold tJ; rw [Nat.testBit_two_pow_mul_add _ ha, if_pos hi])
  | n + 1 => by
    have h := pc_J (y := y) ha n
    show pc (tJ a y) (8 + n) + (if (tJ a y).testBit (8 + n) then 1 else 0) = pc a 8 + (pc y n + (if y.testBit n then 1 else 0))
    rw [h, show (tJ a y).testBit (8 + n) = y.testBit n by unfold tJ; rw [Nat.testBit_two_pow_mul_add _ ha, if_neg (by omega)]; congr 1; omega]
    omega
theorem tJ_of (x : Nat) : x = tJ (x % 256) (x / 256) := by unfold tJ; omega
theorem tJ_mod (a y : Nat) : tJ a y % 16 = a % 16 := by unfold tJ; omega
/-- the first three steps, over four bytes -/
theorem t_bytes {a b c d : Nat} (ha : a < 256) (hb : b < 256) (hc : c < 256) (hd : d < 256) (M5 M3 MF : Nat) :
    tG3 (tJ 0x0f (tJ 0x0f (tJ 0x0f (tJ 0x0f MF)))) (tG2 (tJ 0x33 (tJ 0x33 (tJ 0x33 (tJ 0x33 M3)))) (tG1 (tJ 0x55 (tJ 0x55 (tJ 0x55 (tJ 0x55 M5)))) (tJ a (tJ b (tJ c (tJ d 0)))))) = tJ (pc a 8) (tJ (pc b 8) (tJ (pc c 8) (tJ (pc d 8) 0))) := by
  obtain ⟨a1, a2, a3, a4⟩ := tB_d a ha
  obtain ⟨b1, b2, b3, b4⟩ := tB_d b hb
  obtain ⟨c1, c2, c3, c4⟩ := tB_d c hc
  obtain ⟨d1, d2, d3, d4⟩ := tB_d d hd
  have z1 : tG1 M5 0 = 0 := by simp [tG1]
  have z2 : tG2 M3 0 = 0 := by simp [tG2]
  have z3 : tG3 MF 0 = 0 := by simp [tG3]
  rw [tG1_J ha, tG1_J hb, tG1_J hc, tG1_J hd, z1, tG2_J a1, tG2_J b1, tG2_J c1, tG2_J d1, z2, tG3_J a2 (by rw [tJ_mod]; exact b3), tG3_J b2 (by rw [tJ_mod]; exact c3), tG3_J c2 (by rw [tJ_mod]; exact d3), tG3_J d2 (by decide), z3, a4, b4, c4, d4]
def tV3 (x : Nat) : Nat := tG3 1085102592571150095 (tG2 3689348814741910323 (tG1 6148914691236517205 x))
theorem tV3_eq {x : Nat} (h : x < 4294967296) : ∃ a b c d : Nat, a ≤ 8 ∧ b ≤ 8 ∧ c ≤ 8 ∧ d ≤ 8 ∧ tV3 x = a + 256 * b + 65536 * c + 16777216 * d ∧ pc x 32 = a + b + c + d := by
  have e : x = tJ (x % 256) (tJ (x / 256 % 256) (tJ (x / 65536 % 256) (tJ (x / 16777216) 0))) := by unfold tJ; omega
  generalize ha : x % 256 = a at e
  generalize hb : x / 256 % 256 = b at e
  generalize hc : x / 65536 % 256 = c at e
  generalize hd : x / 16777216 = d at e
  have ha' : a < 256 := by omega
  have hb' : b < 256 := by omega
  have hc' : c < 256 := by omega
  have hd' : d < 256 := by omega
  have k := t_bytes ha' hb' hc' hd' 0x55555555 0x33333333 0x0f0f0f0f
  refine ⟨pc a 8, pc b 8, pc c 8, pc d 8, pc_le a 8, pc_le b 8, pc_le c 8, pc_le d 8, ?_, ?_⟩
  · rw [e]
    refine Eq.trans ?_ (k.trans ?_)
    · rfl
    · unfold tJ; omega
  · rw [e]
    have p1 : pc (tJ a (tJ b (tJ c (tJ d 0)))) 32 = pc a 8 + pc (tJ b (tJ c (tJ d 0))) 24 := pc_J ha' 24
    have p2 : pc (tJ b (tJ c (tJ d 0))) 24 = pc b 8 + pc (tJ c (tJ d 0)) 16 := pc_J hb' 16
    have p3 : pc (tJ c (tJ d 0)) 16 = pc c 8 + pc (tJ d 0) 8 := pc_J hc' 8
    have p4 : pc (tJ d 0) 8 = pc d 8 + pc 0 0 := pc_J hd' 0
    rw [p1, p2, p3, p4, show pc 0 0 = 0 from rfl]
    omega
theorem tG1_le (M x : Nat) : tG1 M x ≤ x := Nat.sub_le _ _
theorem tG2_le (M x : Nat) : tG2 M x ≤ 2 * x := by
  have h1 : x &&& M ≤ x := Nat.and_le_left
  have h2 : (x >>> 2) &&& M ≤ x := Nat.le_trans Nat.and_le_left (Nat.shiftRight_le _ _)
  unfold tG2
  omega
theorem shr_le (x k : Nat) : x >>> k ≤ x := Nat.shiftRight_le x k
theorem tV_end {x : Nat} (h : x < 4294967296) : ((((tV3 x + tV3 x >>> 8) + (tV3 x + tV3 x >>> 8) >>> 16) + ((tV3 x + tV3 x >>> 8) + (tV3 x + tV3 x >>> 8) >>> 16) >>> 32) &&& 127) = pc x 32 := by
  obtain ⟨a, b, c, d, ha, hb, hc, hd, e, e2⟩ := tV3_eq h
  rw [show (127 : Nat) = 2 ^ 7 - 1 from rfl, Nat.and_two_pow_sub_one_eq_mod, e, e2]
  have h1 : (a + 256 * b + 65536 * c + 16777216 * d) >>> 8 = b + 256 * c + 65536 * d := by rw [Nat.shiftRight_eq_div_pow]; omega
  rw [h1]
  have h2 : (a + 256 * b + 65536 * c + 16777216 * d + (b + 256 * c + 65536 * d)) >>> 16 = c + d + 256 * d := by rw [Nat.shiftRight_eq_div_pow]; omega
  rw [h2]
  have h3 : (a + 256 * b + 65536 * c + 16777216 * d + (b + 256 * c + 65536 * d) + (c + d + 256 * d)) >>> 32 = 0 := by rw [Nat.shiftRight_eq_div_pow]; omega
  rw [h3]
  omega
end
section
/-! rows turned -/
def tf (n x : Nat) (b s t : Bool) (i : Nat) : Bool := (x.testBit (if b then n - 1 - i else i) ^^ s) ^^ (t && decide (i % 2 = 1))
def TW (n x : Nat) (b s t : Bool) : Nat := ob (tf n x b s t) n
def TWw (n x w : Nat) : Nat := TW n x (w.testBit 0) (w.testBit 1) (w.testBit 2)
theorem TW_lt (n x : Nat) (b s t : Bool) : TW n x b s t < 2 ^ n := ob_lt _ n
theorem TWw_lt (n x w : Nat) : TWw n x w < 2 ^ n := ob_lt _ n
theorem TW_x {n x : Nat} (h : x < 2 ^ n) : x = TW n x false false false := ob_eq h (fun i _ => by simp [tf])
def rv (n x : Nat) : Nat := ob (fun i => x.testBit (n - 1 - i)) n
theorem TW_rev (n x : Nat) : rv n x = TW n x true false false := ob_cong (fun i _ => by simp [tf])
theorem TW_op (n x : Nat) (b : Bool) : TW n x b false false ^^^ (2 ^ n - 1) = TW n x b true false := by
  apply Nat.eq_of_testBit_eq
  intro i
  unfold TW
  rw [Nat.testBit_xor, ob_tb, ob_tb, Nat.testBit_two_pow_sub_one]
  by_cases q : i < n
  · simp [q, tf]
  · simp [q]
theorem odd_tb : ∀ i, i < 32 → (2863311530 : Nat).testBit i = decide (i % 2 = 1) := by decide +kernel
theorem TW_sec {n : Nat} (hn : n ≤ 32) (x : Nat) (b s : Bool) : TW n x b s false ^^^ (2863311530 &&& (2 ^ n - 1)) = TW n x b s true := by
  apply Nat.eq_of_testBit_eq
  intro i
  unfold TW
  rw [Nat.testBit_xor, ob_tb, ob_tb, Nat.testBit_and, Nat.testBit_two_pow_sub_one]
  by_cases q : i < n
  · rw [odd_tb i (by omega)]
    simp [q, tf]
  · simp [q]
theorem w_bits : ∀ w, w < 8 → ((w &&& 1 = 0 ↔ w.testBit 0 = false) ∧ (w &&& 2 = 0 ↔ w.testBit 1 = false) ∧ (w &&& 4 = 0 ↔ w.testBit 2 = false)) := by decide +kernel
theorem w_0 {w : Nat} (hw : w < 8) (h : ((w &&& 1 : Nat) : Int) = 0) : w.testBit 0 = false := (w_bits w hw).1.mp (by omega)
theorem w_0' {w : Nat} (hw : w < 8) (h : ¬ ((w &&& 1 : Nat) : Int) = 0) : w.testBit 0 = true := by
  have := (w_bits w hw).1
  cases hb : w.testBit 0
  · rw [hb] at this; exact absurd (this.mpr rfl) (by omega)
  · rfl
theorem w_1 {w : Nat} (hw : w < 8) (h : ((w &&& 2 : Nat) : Int) = 0) : w.testBit 1 = false := (w_bits w hw).2.1.mp (by omega)
theorem w_1' {w : Nat} (hw : w < 8) (h : ¬ ((w &&& 2 : Nat) : Int) = 0) : w.testBit 1 = true := by
  have := (w_bits w hw).2.1
  cases hb : w.testBit 1
  · rw [hb] at this; exact absurd (this.mpr rfl) (by omega)
  · rfl
theorem w_2 {w : Nat} (hw : w < 8) (h : ((w &&& 4 : Nat) : Int) = 0) : w.testBit 2 = false := (w_bits w hw).2.2.mp (by omega)
theorem w_2' {w : Nat} (hw : w < 8) (h : ¬ ((w &&& 4 : Nat) : Int) = 0) : w.testBit 2 = true := by
  have := (w_bits w hw).2.2
  cases hb : w.testBit 2
  · rw [hb] at this; exact absurd (this.mpr rfl) (by omega)
  · rfl
theorem rv_0 (x : Nat) : ob (fun j => x.testBit (0 - 1 - j)) 0 = 0 := rfl
theorem rv_s (x i : Nat) : (ob (fun j => x.testBit (i - 1 - j)) i <<< 1) ||| (x.testBit i).toNat = ob (fun j => x.testBit (i + 1 - 1 - j)) (i + 1) := by
  apply Nat.eq_of_testBit_eq
  intro j
  rw [Nat.testBit_or, tb_shl, ob_tb, ob_tb]
  cases j with
  | zero => cases hb : x.testBit i <;> simp [hb]
  | succ j =>
    have e : (x.testBit i).toNat.testBit (j + 1) = false := by cases x.testBit i <;> simp [Nat.testBit_succ]
    rw [e]
    by_cases q : j < i
    · simp [q, show i - 1 - j = i - (j + 1) by omega]
    · simp [q]
def ltw (n x : Nat) : Nat → Nat
  | 0 => x
  | w + 1 => min (ltw n x w) (TWw n x w)
theorem TWw_0 {n x : Nat} (h : x < 2 ^ n) : TWw n x 0 = x := (TW_x h).symm
theorem ltw_1 {n x : Nat} (h : x < 2 ^ n) : ltw n x 1 = x := by
  show min x (TWw n x 0) = x
  rw [TWw_0 h]
  omega
theorem ltw_lt {n x : Nat} (h : x < 2 ^ n) : ∀ w, ltw n x w < 2 ^ n
  | 0 => h
  | w + 1 => Nat.lt_of_le_of_lt (Nat.min_le_left _ _) (ltw_lt h w)
def nwT (n x w : Nat) : Bool := (List.range w).all (fun j => TWw n x j != TWw n x w)
theorem nwT_iff {n x w : Nat} : nwT n x w = true ↔ ∀ j, j < w → ¬ TWw n x j = TWw n x w := by simp [nwT]
def cntw (n x : Nat) : Nat → Nat
  | 0 => 0
  | w + 1 => cntw n x w + (if nwT n x w = true then 1 else 0)
theorem cntw_le (n x : Nat) : ∀ w, cntw n x w ≤ w
  | 0 => Nat.le_refl 0
  | w + 1 => by
    have h := cntw_le n x w
    show cntw n x w + (if nwT n x w = true then 1 else 0) ≤ w + 1
    split <;> omega
/-- two rows put behind one another, woven, multiplied -/
def jn (a la b : Nat) : Nat := a ||| (b <<< la)
theorem jn_lt {a la b lb : Nat} (ha : a < 2 ^ la) (hb : b < 2 ^ lb) : jn a la b < 2 ^ (la + lb) := lt_tb (fun i hi => by
  unfold jn
  rw [Nat.testBit_or, tb_shl, tb_lt ha (by omega), tb_lt hb (by omega)]
  simp)
def wv (a b : Nat) : Nat → Nat
  | 0 => 0
  | i + 1 => wv a b i ||| (((a.testBit i).toNat <<< (2 * i)) ||| ((b.testBit i).toNat <<< (2 * i + 1)))
theorem tbn_lt2 (b : Bool) : b.toNat < 2 ^ 1 := by cases b <;> decide
theorem wv_lt (a b : Nat) : ∀ i, wv a b i < 2 ^ (2 * i)
  | 0 => Nat.zero_lt_one
  | i + 1 => lt_tb (fun j hj => by
    show (wv a b i ||| (((a.testBit i).toNat <<< (2 * i)) ||| ((b.testBit i).toNat <<< (2 * i + 1)))).testBit j = false
    rw [Nat.testBit_or, Nat.testBit_or, tb_shl, tb_shl, tb_lt (wv_lt a b i) (by omega), tb_lt (tbn_lt2 (a.testBit i)) (by omega), tb_lt (tbn_lt2 (b.testBit i)) (by omega)]
    simp)
def pd (a b lb m : Nat) : Nat := ob (fun j => a.testBit (j / lb) ^^ b.testBit (j % lb)) m
theorem pd_s (a : Nat) {b lb : Nat} (i : Nat) (hb : b < 2 ^ lb) (hl : 0 < lb) : pd a b lb (i * lb) ||| ((if a.testBit i then b ^^^ (2 ^ lb - 1) else b) <<< (i * lb)) = pd a b lb ((i + 1) * lb) := by
  apply Nat.eq_of_testBit_eq
  intro j
  unfold pd
  rw [Nat.testBit_or, tb_shl, ob_tb, ob_tb]
  have hm : (i + 1) * lb = i * lb + lb := Nat.succ_mul i lb
  rcases Nat.lt_or_ge j (i * lb) with q | q
  · simp [q, show j < (i + 1) * lb by omega, show ¬ i * lb ≤ j by omega]
  · rcases Nat.lt_or_ge j ((i + 1) * lb) with r | r
    · have e1 : j / lb = i := by
        apply Nat.div_eq_of_lt_le
        · exact q
        · exact r
      have e2 : j % lb = j - i * lb := by
        have h := Nat.div_add_mod j lb
        rw [e1, Nat.mul_comm lb i] at h
        omega
      rw [e1, e2]
      have e3 : j - i * lb < lb := by omega
      cases ha : a.testBit i
      · simp [show ¬ j < i * lb by omega, r, q]
      · simp [show ¬ j < i * lb by omega, r, q, Nat.testBit_xor, Nat.testBit_two_pow_sub_one, e3]
    · have e4 : lb ≤ j - i * lb := by omega
      have e5 : (if a.testBit i then b ^^^ (2 ^ lb - 1) else b).testBit (j - i * lb) = false := by
        split
        · rw [Nat.testBit_xor, tb_lt hb e4, Nat.testBit_two_pow_sub_one]
          simp; omega
        · exact tb_lt hb e4
      rw [e5]
      simp [show ¬ j < i * lb by omega, show ¬ j < (i + 1) * lb by omega]
end
section
/-! Signs: the walks -/
theorem tbN (x i : Nat) : (x >>> i) &&& 1 = (x.testBit i).toNat := by
  rw [Nat.and_one_is_mod, Nat.shiftRight_eq_div_pow, Nat.testBit_eq_decide_div_mod_eq]
  rcases Nat.mod_two_eq_zero_or_one (x / 2 ^ i) with h | h <;> rw [h] <;> rfl
theorem lt32 {x n : Nat} (hx : x < 2 ^ n) (hn : n ≤ 32) : x < 4294967296 := Nat.lt_of_lt_of_le hx (Nat.pow_le_pow_right (n := 2) (j := 32) (by decide) hn)
theorem tbn_lt (b : Bool) : b.toNat < 9223372036854775808 := by cases b <;> decide
theorem pm_1 {x i : Nat} (h : ((x.testBit i).toNat : Int) = 0) : pm x i = 1 := by
  unfold pm
  cases hb : x.testBit i
  · rfl
  · rw [hb] at h; cases h
theorem pm_m {x i : Nat} (h : ¬ ((x.testBit i).toNat : Int) = 0) : pm x i = -1 := by
  unfold pm
  cases hb : x.testBit i
  · rw [hb] at h; exact absurd rfl h
  · rfl
-- mask(n)
set_option maxHeartbeats 4000000 in
set_option maxRecDepth 100000 in
theorem c_X3_mask (l : Launch) (n : Nat) (gn : n ≤ 32) : Met l yX3_mask wsX3_mask ({ frames := 0, cells := 0, slots := 0, locals := 0 }) (va_Pc [.int (zI (n))] (fun _ => True)) (vp_Sl (fun r => r = lN (2 ^ n - 1))) 0 0 (fun _ => False) := by
  refine Met.ofW (cc := cX3_mask) (maxL := 1) (ret := (some .long)) (by decide) rfl ?_
  intro p e s m args below meth c s₁ B hml hv
  obtain ⟨rfl, -⟩ := hv
  have hx := B.exec
  have hb := B.bytes
  have hr := B.returns
  have hts := atoms_spec (ws := wsX3_mask) B.pre
  have hown : s.vm.findClass RX3 = some m.cls := findClass_of_methodNamed B.named
  have hlocks := B.notSynchronized
  have hl := lv_entry ([.int (zI (n))]) (n := 1) (Nat.le_of_ble_eq_true rfl)
  rw [lg_entry_eq]
  generalize (lg_sl ([.int (zI (n))]) ++ List.replicate (1 - (lg_sl ([.int (zI (n))])).length) Slot.unset).toArray = ls at hl ⊢
  have hl : lv_has ls 1 [(0, .int (zI (n)))] := hl
  refine lv_lconst (v := lN 1) hx hb dX3_mask_0 rfl ?_
  refine lv_iload_n hx hb dX3_mask_1 rfl (lv_at hl 0 rfl) ?_
  refine n_lshl hx hb (q := n) (by omega) dX3_mask_2 ?_
  refine n_re (e2 := 2 ^ n) (Nat.one_shiftLeft n) ?_
  refine lv_lconst (v := lN 1) hx hb dX3_mask_3 rfl ?_
  refine n_lsub hx hb Nat.one_le_two_pow dX3_mask_4 ?_
  exact W.lret (v := (lN ((2 ^ n) - (1)))) hx hb hr (fun t ht hW => ⟨_, rfl, rfl, ht⟩) (fun q h => by cases h) dX3_mask_5

-- sign(x, i)
set_option maxHeartbeats 4000000 in
set_option maxRecDepth 100000 in
theorem c_X3_sign (l : Launch) (x i : Nat) (gx : x < 4294967296) (gi : i < 64) : Met l yX3_sign wsX3_sign ({ frames := 0, cells := 0, slots := 0, locals := 0 }) (va_Pc [.long (lN (x)), .int (zI (i))] (fun _ => True)) (vp_Si (fun r => r = zI (pm x i))) 0 0 (fun _ => False) := by
  refine Met.ofW (cc := cX3_sign) (maxL := 3) (ret := (some .int)) (by decide) rfl ?_
  intro p e s m args below meth c s₁ B hml hv
  obtain ⟨rfl, -⟩ := hv
  have hx := B.exec
  have hb := B.bytes
  have hr := B.returns
  have hts := atoms_spec (ws := wsX3_sign) B.pre
  have hown : s.vm.findClass RX3 = some m.cls := findClass_of_methodNamed B.named
  have hlocks := B.notSynchronized
  have hl := lv_entry ([.long (lN (x)), .int (zI (i))]) (n := 3) (Nat.le_of_ble_eq_true rfl)
  rw [lg_entry_eq]
  generalize (lg_sl ([.long (lN (x)), .int (zI (i))]) ++ List.replicate (3 - (lg_sl ([.long (lN (x)), .int (zI (i))])).length) Slot.unset).toArray = ls at hl ⊢
  have hl : lv_has ls 3 [(0, .long (lN (x))), (2, .int (zI (i)))] := hl
  refine lv_lload_n hx hb dX3_sign_0 rfl (lv_at hl 0 rfl) ?_
  refine lv_iload_n hx hb dX3_sign_1 rfl (lv_at hl 1 rfl) ?_
  refine n_lushr hx hb (q := i) (by omega) (by omega) dX3_sign_2 ?_
  refine lv_lconst (v := lN 1) hx hb dX3_sign_3 rfl ?_
  refine n_land hx hb dX3_sign_4 ?_
  refine n_re (e2 := (x.testBit i).toNat) (tbN x i) ?_
  refine lv_lconst (v := lN 0) hx hb dX3_sign_5 rfl ?_
  refine z_lcmp_ne (a := (((x.testBit i).toNat : Nat) : Int)) (b := ((0 : Nat) : Int)) (tgt := 14) hx hb dX3_sign_6 dX3_sign_7 (by decide) (lN_toI (tbn_lt _)) (lN_toI (by omega)) (fun c6 => ?_) (fun c6 => ?_)
  · refine lv_iconst (v := zI (-1)) hx hb dX3_sign_14 rfl ?_
    exact W.iret (v := (zI ((-1)))) hx hb hr (fun t ht hW => ⟨_, rfl, by rw [pm_m c6], ht⟩) (fun q h => by cases h) dX3_sign_15
  · refine lv_iconst (v := zI 1) hx hb dX3_sign_10 rfl ?_
    refine lv_goto (tgt := 15) hx hb dX3_sign_11 (by decide) ?_
    exact W.iret (v := (zI (1))) hx hb hr (fun t ht hW => ⟨_, rfl, by rw [pm_1 c6], ht⟩) (fun q h => by cases h) dX3_sign_15

-- Long.bitCount
set_option maxHeartbeats 4000000 in
set_option maxRecDepth 100000 in
theorem c_J13_bitCount_95d88 (l : Launch) (x : Nat) (gx : x < 4294967296) : Met l yJ13_bitCount_95d88 wsJ13_bitCount_95d88 ({ frames := 0, cells := 0, slots := 0, locals := 0 }) (va_Pc [.long (lN (x))] (fun _ => True)) (vp_Si (fun r => r = zI (pc x 32 : Int))) 0 0 (fun _ => False) := by
  refine Met.ofW (cc := cJ13_bitCount_95d88) (maxL := 2) (ret := (some .int)) (by decide) rfl ?_
  intro p e s m args below meth c s₁ B hml hv
  obtain ⟨rfl, -⟩ := hv
  have hx := B.exec
  have hb := B.bytes
  have hr := B.returns
  have hts := atoms_spec (ws := wsJ13_bitCount_95d88) B.pre
  have hown : s.vm.findClass RJ13 = some m.cls := findClass_of_methodNamed B.named
  have hlocks := B.notSynchronized
  have hl := lv_entry ([.long (lN (x))]) (n := 2) (Nat.le_of_ble_eq_true rfl)
  rw [lg_entry_eq]
  generalize (lg_sl ([.long (lN (x))]) ++ List.replicate (2 - (lg_sl ([.long (lN (x))])).length) Slot.unset).toArray = ls at hl ⊢
  have hl : lv_has ls 2 [(0, .long (lN (x)))] := hl
  have k1 := tG1_le 6148914691236517205 x
  have k2 := tG2_le 3689348814741910323 (tG1 6148914691236517205 x)
  have k3 : tV3 x ≤ 4 * x := by unfold tV3 tG3; have q := shr_le (tG2 3689348814741910323 (tG1 6148914691236517205 x)) 4; exact Nat.le_trans Nat.and_le_left (by omega)
  have k4 := shr_le (tV3 x) 8
  have k5 := shr_le (tV3 x + tV3 x >>> 8) 16
  refine lv_lload_n hx hb dJ13_bitCount_95d88_0 rfl (lv_at hl 0 rfl) ?_
  refine lv_lload_n hx hb dJ13_bitCount_95d88_1 rfl (lv_at hl 0 rfl) ?_
  refine lv_iconst (v := zI 1) hx hb dJ13_bitCount_95d88_2 rfl ?_
  refine n_lushr hx hb (q := 1) (by omega) (by omega) dJ13_bitCount_95d88_3 ?_
  refine lv_ldc2 (v := lN 6148914691236517205) hx hb hown (hts (.constantLong RJ13 314 (lN 6148914691236517205)) (by decide +kernel)) dJ13_bitCount_95d88_4 ?_
  refine n_land hx hb dJ13_bitCount_95d88_7 ?_
  refine n_re (e2 := (x >>> 1) &&& 6148914691236517205) (rfl) ?_
  refine n_lsub hx hb (Nat.le_trans Nat.and_le_left (shr_le x 1)) dJ13_bitCount_95d88_8 ?_
  refine n_re (e2 := tG1 6148914691236517205 x) (rfl) ?_
  refine lv_lstore_n (lv' := [(0, .long (lN (tG1 6148914691236517205 x)))]) hx hb dJ13_bitCount_95d88_9 rfl hl (by decide) rfl (fun ls hl => ?_)
  refine lv_lload_n hx hb dJ13_bitCount_95d88_10 rfl (lv_at hl 0 rfl) ?_
  refine lv_ldc2 (v := lN 3689348814741910323) hx hb hown (hts (.constantLong RJ13 316 (lN 3689348814741910323)) (by decide +kernel)) dJ13_bitCount_95d88_11 ?_
  refine n_land hx hb dJ13_bitCount_95d88_14 ?_
  refine lv_lload_n hx hb dJ13_bitCount_95d88_15 rfl (lv_at hl 0 rfl) ?_
  refine lv_iconst (v := zI 2) hx hb dJ13_bitCount_95d88_16 rfl ?_
  refine n_lushr hx hb (q := 2) (by omega) (by omega) dJ13_bitCount_95d88_17 ?_
  refine lv_ldc2 (v := lN 3689348814741910323) hx hb hown (hts (.constantLong RJ13 316 (lN 3689348814741910323)) (by decide +kernel)) dJ13_bitCount_95d88_18 ?_
  refine n_land hx hb dJ13_bitCount_95d88_21 ?_
  refine n_ladd hx hb dJ13_bitCount_95d88_22 ?_
  refine n_re (e2 := tG2 3689348814741910323 (tG1 6148914691236517205 x)) (rfl) ?_
  refine lv_lstore_n (lv' := [(0, .long (lN (tG2 3689348814741910323 (tG1 6148914691236517205 x))))]) hx hb dJ13_bitCount_95d88_23 rfl hl (by decide) rfl (fun ls hl => ?_)
  refine lv_lload_n hx hb dJ13_bitCount_95d88_24 rfl (lv_at hl 0 rfl) ?_
  refine lv_lload_n hx hb dJ13_bitCount_95d88_25 rfl (lv_at hl 0 rfl) ?_
  refine lv_iconst (v := zI 4) hx hb dJ13_bitCount_95d88_26 rfl ?_
  refine n_lushr hx hb (q := 4) (by omega) (by omega) dJ13_bitCount_95d88_27 ?_
  refine n_ladd hx hb dJ13_bitCount_95d88_28 ?_
  refine lv_ldc2 (v := lN 1085102592571150095) hx hb hown (hts (.constantLong RJ13 318 (lN 1085102592571150095)) (by decide +kernel)) dJ13_bitCount_95d88_29 ?_
  refine n_land hx hb dJ13_bitCount_95d88_32 ?_
  refine n_re (e2 := tV3 x) (rfl) ?_
  refine lv_lstore_n (lv' := [(0, .long (lN (tV3 x)))]) hx hb dJ13_bitCount_95d88_33 rfl hl (by decide) rfl (fun ls hl => ?_)
  refine lv_lload_n hx hb dJ13_bitCount_95d88_34 rfl (lv_at hl 0 rfl) ?_
  refine lv_lload_n hx hb dJ13_bitCount_95d88_35 rfl (lv_at hl 0 rfl) ?_
  refine lv_bipush (v := zI 8) hx hb dJ13_bitCount_95d88_36 (by decide +kernel) ?_
  refine n_lushr hx hb (q := 8) (by omega) (by omega) dJ13_bitCount_95d88_38 ?_
  refine n_ladd hx hb dJ13_bitCount_95d88_39 ?_
  refine n_re (e2 := tV3 x + tV3 x >>> 8) (rfl) ?_
  refine lv_lstore_n (lv' := [(0, .long (lN (tV3 x + tV3 x >>> 8)))]) hx hb dJ13_bitCount_95d88_40 rfl hl (by decide) rfl (fun ls hl => ?_)
  refine lv_lload_n hx hb dJ13_bitCount_95d88_41 rfl (lv_at hl 0 rfl) ?_
  refine lv_lload_n hx hb dJ13_bitCount_95d88_42 rfl (lv_at hl 0 rfl) ?_
  refine lv_bipush (v := zI 16) hx hb dJ13_bitCount_95d88_43 (by decide +kernel) ?_
  refine n_lushr hx hb (q := 16) (by omega) (by omega) dJ13_bitCount_95d88_45 ?_
  refine n_ladd hx hb dJ13_bitCount_95d88_46 ?_
  refine lv_lstore_n (lv' := [(0, .long (lN ((tV3 x + tV3 x >>> 8) + ((tV3 x + tV3 x >>> 8) >>> (16)))))]) hx hb dJ13_bitCount_95d88_47 rfl hl (by decide) rfl (fun ls hl => ?_)
  refine lv_lload_n hx hb dJ13_bitCount_95d88_48 rfl (lv_at hl 0 rfl) ?_
  refine lv_lload_n hx hb dJ13_bitCount_95d88_49 rfl (lv_at hl 0 rfl) ?_
  refine lv_bipush (v := zI 32) hx hb dJ13_bitCount_95d88_50 (by decide +kernel) ?_
  refine n_lushr hx hb (q := 32) (by omega) (by omega) dJ13_bitCount_95d88_52 ?_
  refine n_ladd hx hb dJ13_bitCount_95d88_53 ?_
  refine lv_lstore_n (lv' := [(0, .long (lN (((tV3 x + tV3 x >>> 8) + ((tV3 x + tV3 x >>> 8) >>> (16))) + (((tV3 x + tV3 x >>> 8) + ((tV3 x + tV3 x >>> 8) >>> (16))) >>> (32)))))]) hx hb dJ13_bitCount_95d88_54 rfl hl (by decide) rfl (fun ls hl => ?_)
  refine lv_lload_n hx hb dJ13_bitCount_95d88_55 rfl (lv_at hl 0 rfl) ?_
  refine n_l2i hx hb dJ13_bitCount_95d88_56 ?_
  refine lv_bipush (v := zI 127) hx hb dJ13_bitCount_95d88_57 (by decide +kernel) ?_
  refine n_iand hx hb (a := ((tV3 x + tV3 x >>> 8) + ((tV3 x + tV3 x >>> 8) >>> (16))) + (((tV3 x + tV3 x >>> 8) + ((tV3 x + tV3 x >>> 8) >>> (16))) >>> (32))) (b := 127) dJ13_bitCount_95d88_59 ?_
  refine z_re (e2 := ((pc x 32 : Nat) : Int)) (by rw [tV_end gx]) ?_
  exact W.iret (v := (zI (((pc x 32 : Nat) : Int)))) hx hb hr (fun t ht hW => ⟨_, rfl, rfl, ht⟩) (fun q h => by cases h) dJ13_bitCount_95d88_60

-- openSum(x, n, k)
set_option maxHeartbeats 4000000 in
set_option maxRecDepth 100000 in
theorem c_X3_openSum (l : Launch) (x n k : Nat) (gn : n ≤ 32) (gk : k ≤ n) (gx : x < 2 ^ n) : Met l yX3_openSum wsX3_openSum ({ frames := 1, cells := 0, slots := 0, locals := 21 }) (va_Pc [.long (lN (x)), .int (zI (n)), .int (zI (k))] (fun _ => True)) (vp_Si (fun r => r = zI (oS n x k))) 0 0 (fun _ => False) := by
  refine Met.ofW (cc := cX3_openSum) (maxL := 5) (ret := (some .int)) (by decide) rfl ?_
  intro p e s m args below meth c s₁ B hml hv
  obtain ⟨rfl, -⟩ := hv
  have hx := B.exec
  have hb := B.bytes
  have hr := B.returns
  have hts := atoms_spec (ws := wsX3_openSum) B.pre
  have hown : s.vm.findClass RX3 = some m.cls := findClass_of_methodNamed B.named
  have hlocks := B.notSynchronized
  have hl := lv_entry ([.long (lN (x)), .int (zI (n)), .int (zI (k))]) (n := 5) (Nat.le_of_ble_eq_true rfl)
  rw [lg_entry_eq]
  generalize (lg_sl ([.long (lN (x)), .int (zI (n)), .int (zI (k))]) ++ List.replicate (5 - (lg_sl ([.long (lN (x)), .int (zI (n)), .int (zI (k))])).length) Slot.unset).toArray = ls at hl ⊢
  have hl : lv_has ls 5 [(0, .long (lN (x))), (2, .int (zI (n))), (3, .int (zI (k)))] := hl
  have hx2 : x < 4294967296 := lt32 gx gn
  have hy : (x ^^^ (x >>> k)) &&& (2 ^ (n - k) - 1) < 4294967296 := by
    have h1 := shr_le x k
    exact Nat.lt_of_le_of_lt Nat.and_le_left (Nat.xor_lt_two_pow (n := 32) hx2 (by omega))
  refine lv_iload_n hx hb dX3_openSum_0 rfl (lv_at hl 1 rfl) ?_
  refine lv_iload_n hx hb dX3_openSum_1 rfl (lv_at hl 2 rfl) ?_
  refine z_isub hx hb dX3_openSum_2 ?_
  refine z_re (e2 := ((n - k : Nat) : Int)) (by omega) ?_
  refine lv_istore (lv' := [(4, .int (zI (((n - k : Nat) : Int)))), (0, .long (lN (x))), (2, .int (zI (n))), (3, .int (zI (k)))]) hx hb dX3_openSum_3 hl (by decide) rfl (fun ls hl => ?_)
  refine lv_iload hx hb dX3_openSum_5 (lv_at hl 0 rfl) ?_
  refine lv_iconst (v := zI 2) hx hb dX3_openSum_7 rfl ?_
  refine lv_lload_n hx hb dX3_openSum_8 rfl (lv_at hl 1 rfl) ?_
  refine lv_lload_n hx hb dX3_openSum_9 rfl (lv_at hl 1 rfl) ?_
  refine lv_iload_n hx hb dX3_openSum_10 rfl (lv_at hl 3 rfl) ?_
  refine n_lushr hx hb (q := k) (by omega) (by omega) dX3_openSum_11 ?_
  refine n_lxor hx hb dX3_openSum_12 ?_
  refine lv_iload hx hb dX3_openSum_13 (lv_at hl 0 rfl) ?_
  refine vp_callSl (va_runS (As := [.int (zI (((n - k : Nat) : Int)))]) (rest := [.long (lN ((x) ^^^ ((x) >>> (k)))), .int (zI (2)), .int (zI (((n - k : Nat) : Int)))]) ⟨hx, hb, hml, hown, hts⟩ (c_X3_mask l (n - k) (by omega)) (va_cwS 1 hts gX3_openSum_X3_mask rfl rfl rfl (by decide +kernel) ⟨Nat.le_of_ble_eq_true rfl, Nat.le_of_ble_eq_true rfl⟩) ⟨fun a U g mk q => q, fun U hU hW => ⟨rfl, trivial⟩⟩ rfl rfl hl.1 rfl (lv_room (Nat.le_of_ble_eq_true rfl)) dX3_openSum_15 ⟨Nat.le_of_ble_eq_true rfl, Nat.le_of_ble_eq_true rfl⟩).run (fun r hr15 => ?_)
  obtain rfl := hr15
  refine n_land hx hb dX3_openSum_18 ?_
  refine vp_callSi (va_runS (As := [.long (lN (((x) ^^^ ((x) >>> (k))) &&& (2 ^ (n - k) - 1)))]) (rest := [.int (zI (2)), .int (zI (((n - k : Nat) : Int)))]) ⟨hx, hb, hml, hown, hts⟩ (c_J13_bitCount_95d88 l ((x ^^^ (x >>> k)) &&& (2 ^ (n - k) - 1)) hy) (va_cwS 1 hts gX3_openSum_J13_bitCount_95d88 rfl rfl rfl (by decide +kernel) ⟨Nat.le_of_ble_eq_true rfl, Nat.le_of_ble_eq_true rfl⟩) ⟨fun a U g mk q => q, fun U hU hW => ⟨rfl, trivial⟩⟩ rfl rfl hl.1 rfl (lv_room (Nat.le_of_ble_eq_true rfl)) dX3_openSum_19 ⟨Nat.le_of_ble_eq_true rfl, Nat.le_of_ble_eq_true rfl⟩).run (fun r hr19 => ?_)
  obtain rfl := hr19
  refine z_imul hx hb dX3_openSum_22 ?_
  refine z_isub hx hb dX3_openSum_23 ?_
  refine z_re (e2 := oS n x k) (by rw [oS_pc gn]) ?_
  exact W.iret (v := (zI (oS n x k))) hx hb hr (fun t ht hW => ⟨_, rfl, rfl, ht⟩) (fun q h => by cases h) dX3_openSum_24

-- roundSum(x, n, k)
set_option maxHeartbeats 4000000 in
set_option maxRecDepth 100000 in
theorem c_X3_roundSum (l : Launch) (x n k : Nat) (gn : n ≤ 32) (gk : k < n) (gx : x < 2 ^ n) : Met l yX3_roundSum wsX3_roundSum ({ frames := 1, cells := 0, slots := 0, locals := 21 }) (va_Pc [.long (lN (x)), .int (zI (n)), .int (zI (k))] (fun _ => True)) (vp_Si (fun r => r = zI (rS n x k))) 0 0 (fun _ => False) := by
  refine Met.ofW (cc := cX3_roundSum) (maxL := 6) (ret := (some .int)) (by decide) rfl ?_
  intro p e s m args below meth c s₁ B hml hv
  obtain ⟨rfl, -⟩ := hv
  have hx := B.exec
  have hb := B.bytes
  have hr := B.returns
  have hts := atoms_spec (ws := wsX3_roundSum) B.pre
  have hown : s.vm.findClass RX3 = some m.cls := findClass_of_methodNamed B.named
  have hlocks := B.notSynchronized
  have hl := lv_entry ([.long (lN (x)), .int (zI (n)), .int (zI (k))]) (n := 6) (Nat.le_of_ble_eq_true rfl)
  rw [lg_entry_eq]
  generalize (lg_sl ([.long (lN (x)), .int (zI (n)), .int (zI (k))]) ++ List.replicate (6 - (lg_sl ([.long (lN (x)), .int (zI (n)), .int (zI (k))])).length) Slot.unset).toArray = ls at hl ⊢
  have hl : lv_has ls 6 [(0, .long (lN (x))), (2, .int (zI (n))), (3, .int (zI (k)))] := hl
  have hx2 : x < 4294967296 := lt32 gx gn
  have hy : x ^^^ (((x >>> k) ||| (x <<< (n - k))) &&& (2 ^ n - 1)) < 4294967296 := by
    have h1 : 2 ^ n ≤ 2 ^ 32 := Nat.pow_le_pow_right (by decide) gn
    have h2 : 0 < 2 ^ n := Nat.two_pow_pos n
    exact Nat.xor_lt_two_pow (n := 32) hx2 (Nat.lt_of_le_of_lt Nat.and_le_right (by omega))
  refine lv_lload_n hx hb dX3_roundSum_0 rfl (lv_at hl 0 rfl) ?_
  refine lv_iload_n hx hb dX3_roundSum_1 rfl (lv_at hl 2 rfl) ?_
  refine n_lushr hx hb (q := k) (by omega) (by omega) dX3_roundSum_2 ?_
  refine lv_lload_n hx hb dX3_roundSum_3 rfl (lv_at hl 0 rfl) ?_
  refine lv_iload_n hx hb dX3_roundSum_4 rfl (lv_at hl 1 rfl) ?_
  refine lv_iload_n hx hb dX3_roundSum_5 rfl (lv_at hl 2 rfl) ?_
  refine z_isub hx hb dX3_roundSum_6 ?_
  refine z_re (e2 := ((n - k : Nat) : Int)) (by omega) ?_
  refine n_lshl hx hb (q := n - k) (by omega) dX3_roundSum_7 ?_
  refine n_lor hx hb dX3_roundSum_8 ?_
  refine lv_iload_n hx hb dX3_roundSum_9 rfl (lv_at hl 1 rfl) ?_
  refine vp_callSl (va_runS (As := [.int (zI (n))]) (rest := [.long (lN (((x) >>> (k)) ||| ((x) <<< (n - k))))]) ⟨hx, hb, hml, hown, hts⟩ (c_X3_mask l n gn) (va_cwS 1 hts gX3_roundSum_X3_mask rfl rfl rfl (by decide +kernel) ⟨Nat.le_of_ble_eq_true rfl, Nat.le_of_ble_eq_true rfl⟩) ⟨fun a U g mk q => q, fun U hU hW => ⟨rfl, trivial⟩⟩ rfl rfl hl.1 rfl (lv_room (Nat.le_of_ble_eq_true rfl)) dX3_roundSum_10 ⟨Nat.le_of_ble_eq_true rfl, Nat.le_of_ble_eq_true rfl⟩).run (fun r hr10 => ?_)
  obtain rfl := hr10
  refine n_land hx hb dX3_roundSum_13 ?_
  refine lv_lstore (lv' := [(4, .long (lN ((((x) >>> (k)) ||| ((x) <<< (n - k))) &&& (2 ^ (n) - 1)))), (0, .long (lN (x))), (2, .int (zI (n))), (3, .int (zI (k)))]) hx hb dX3_roundSum_14 hl (by decide) rfl (fun ls hl => ?_)
  refine lv_iload_n hx hb dX3_roundSum_16 rfl (lv_at hl 2 rfl) ?_
  refine lv_iconst (v := zI 2) hx hb dX3_roundSum_17 rfl ?_
  refine lv_lload_n hx hb dX3_roundSum_18 rfl (lv_at hl 1 rfl) ?_
  refine lv_lload hx hb dX3_roundSum_19 (lv_at hl 0 rfl) ?_
  refine n_lxor hx hb dX3_roundSum_21 ?_
  refine vp_callSi (va_runS (As := [.long (lN ((x) ^^^ ((((x) >>> (k)) ||| ((x) <<< (n - k))) &&& (2 ^ (n) - 1))))]) (rest := [.int (zI (2)), .int (zI (n))]) ⟨hx, hb, hml, hown, hts⟩ (c_J13_bitCount_95d88 l (x ^^^ (((x >>> k) ||| (x <<< (n - k))) &&& (2 ^ n - 1))) hy) (va_cwS 1 hts gX3_roundSum_J13_bitCount_95d88 rfl rfl rfl (by decide +kernel) ⟨Nat.le_of_ble_eq_true rfl, Nat.le_of_ble_eq_true rfl⟩) ⟨fun a U g mk q => q, fun U hU hW => ⟨rfl, trivial⟩⟩ rfl rfl hl.1 rfl (lv_room (Nat.le_of_ble_eq_true rfl)) dX3_roundSum_22 ⟨Nat.le_of_ble_eq_true rfl, Nat.le_of_ble_eq_true rfl⟩).run (fun r hr22 => ?_)
  obtain rfl := hr22
  refine z_imul hx hb dX3_roundSum_25 ?_
  refine z_isub hx hb dX3_roundSum_26 ?_
  refine z_re (e2 := rS n x k) (by rw [rS_pc gn gx gk]) ?_
  exact W.iret (v := (zI (rS n x k))) hx hb hr (fun t ht hW => ⟨_, rfl, rfl, ht⟩) (fun q h => by cases h) dX3_roundSum_27
end
section
/-! Signs: the walks with loops -/
theorem cntw_s (n x w : Nat) : cntw n x (w + 1) = cntw n x w + (if nwT n x w = true then 1 else 0) := rfl
theorem and_rng (w k : Nat) (h : w < 8) : -2147483648 ≤ ((w &&& k : Nat) : Int) ∧ ((w &&& k : Nat) : Int) < 2147483648 := by
  have := Nat.and_le_left (n := w) (m := k)
  omega
theorem pm_p {a i : Nat} (h : pm a i = 1) : a.testBit i = false := by
  unfold pm at h
  cases hb : a.testBit i
  · rfl
  · rw [hb] at h; exact absurd h (by decide)
theorem pm_n {a i : Nat} (h : ¬ pm a i = 1) : a.testBit i = true := by
  unfold pm at h
  cases hb : a.testBit i
  · rw [hb] at h; exact absurd rfl h
  · rfl
-- peak(x, n)
set_option maxHeartbeats 4000000 in
set_option maxRecDepth 100000 in
theorem c_X3_peak (l : Launch) (x n : Nat) (gn : n ≤ 32) (g1 : 1 ≤ n) (gx : x < 2 ^ n) : Met l yX3_peak wsX3_peak ({ frames := 2, cells := 0, slots := 0, locals := 45 }) (va_Pc [.long (lN (x)), .int (zI (n))] (fun _ => True)) (vp_Si (fun r => r = zI (pkL n x n : Int))) 0 0 (fun _ => False) := by
  refine Met.ofW (cc := cX3_peak) (maxL := 5) (ret := (some .int)) (by decide) rfl ?_
  intro p e s m args below meth c s₁ B hml hv
  obtain ⟨rfl, -⟩ := hv
  have hx := B.exec
  have hb := B.bytes
  have hr := B.returns
  have hts := atoms_spec (ws := wsX3_peak) B.pre
  have hown : s.vm.findClass RX3 = some m.cls := findClass_of_methodNamed B.named
  have hlocks := B.notSynchronized
  have hl := lv_entry ([.long (lN (x)), .int (zI (n))]) (n := 5) (Nat.le_of_ble_eq_true rfl)
  rw [lg_entry_eq]
  generalize (lg_sl ([.long (lN (x)), .int (zI (n))]) ++ List.replicate (5 - (lg_sl ([.long (lN (x)), .int (zI (n))])).length) Slot.unset).toArray = ls at hl ⊢
  have hl : lv_has ls 5 [(0, .long (lN (x))), (2, .int (zI (n)))] := hl
  refine lv_iconst (v := zI 0) hx hb dX3_peak_0 rfl ?_
  refine z_re (e2 := ((pkL n x 1 : Nat) : Int)) (rfl) ?_
  refine lv_istore_n (lv' := [(3, .int (zI (((pkL n x 1 : Nat) : Int)))), (0, .long (lN (x))), (2, .int (zI (n)))]) hx hb dX3_peak_1 rfl hl (by decide) rfl (fun ls hl => ?_)
  refine lv_iconst (v := zI 1) hx hb dX3_peak_2 rfl ?_
  refine z_re (e2 := ((1 : Nat) : Int)) (rfl) ?_
  refine lv_istore (lv' := [(4, .int (zI (((1 : Nat) : Int)))), (3, .int (zI (((pkL n x 1 : Nat) : Int)))), (0, .long (lN (x))), (2, .int (zI (n)))]) hx hb dX3_peak_3 hl (by decide) rfl (fun ls hl => ?_)
  have lp5 : ∀ (NN : Nat) (k : Nat) (q1 : 1 ≤ k) (q2 : k ≤ n), n - k < NN → ∀ (ls : Array Slot), lv_has ls 5 [(0, .long (lN (x))), (2, .int (zI (n))), (3, .int (zI (((pkL n x k : Nat) : Int)))), (4, .int (zI (k)))] → W p l e (headSpec wsX3_peak ({ frames := 2, cells := 0, slots := 0, locals := 45 })).room s m ([.long (lN (x)), .int (zI (n))] : List Value).toArray below meth c s.heap [] 0 0 (MQ below (vp_Si (fun r => r = zI (pkL n x n : Int))) ([.long (lN (x)), .int (zI (n))] : List Value).toArray s 0 0 (fun _ => False)) (F0 m 5 ls []) := by
    intro NN
    induction NN with
    | zero =>
      intro k q1 q2 hmu
      exact absurd hmu (Nat.not_lt_zero _)
    | succ NN ih5 =>
      intro k q1 q2 hmu ls hl
      have b1 := pkL_bd n x k
      have b2 := oS_bd n x k
      refine lv_iload hx hb dX3_peak_5 (lv_at hl 3 rfl) ?_
      refine lv_iload_n hx hb dX3_peak_7 rfl (lv_at hl 1 rfl) ?_
      refine z_icmp_ge (tgt := 32) hx hb dX3_peak_8 (by decide) (by omega) (by omega) (fun c8 => ?_) (fun c8 => ?_)
      · refine lv_iload_n hx hb dX3_peak_32 rfl (lv_at hl 2 rfl) ?_
        exact W.iret (v := (zI (((pkL n x k : Nat) : Int)))) hx hb hr (fun t ht hW => ⟨_, rfl, by rw [show k = n by omega], ht⟩) (fun q h => by cases h) dX3_peak_33
      · refine lv_iload_n hx hb dX3_peak_11 rfl (lv_at hl 2 rfl) ?_
        refine lv_lload_n hx hb dX3_peak_12 rfl (lv_at hl 0 rfl) ?_
        refine lv_iload_n hx hb dX3_peak_13 rfl (lv_at hl 1 rfl) ?_
        refine lv_iload hx hb dX3_peak_14 (lv_at hl 3 rfl) ?_
        refine vp_callSi (va_runS (As := [.long (lN (x)), .int (zI (n)), .int (zI (k))]) (rest := [.int (zI (((pkL n x k : Nat) : Int)))]) ⟨hx, hb, hml, hown, hts⟩ (c_X3_openSum l x n k gn (by omega) gx) (va_cwS 3 hts gX3_peak_X3_openSum rfl rfl rfl (by decide +kernel) ⟨Nat.le_of_ble_eq_true rfl, Nat.le_of_ble_eq_true rfl⟩) ⟨fun a U g mk q => q, fun U hU hW => ⟨rfl, trivial⟩⟩ rfl rfl hl.1 rfl (lv_room (Nat.le_of_ble_eq_true rfl)) dX3_peak_16 ⟨Nat.le_of_ble_eq_true rfl, Nat.le_of_ble_eq_true rfl⟩).run (fun r hr16 => ?_)
        obtain rfl := hr16
        refine z_mabs hx hb (hml.trans hl.1.symm) hown (hts (.methodLink RX3 23 Lib.Math.abs.name) (by decide +kernel)) (hts (.static Lib.Math.abs.name) (by decide +kernel)) (hts (.initialized "java/lang/Math") (by decide +kernel)) (hts (.code Lib.Math.abs.name Lib.Math.abs.code 1 (some .int)) (by decide +kernel)) (Nat.le_of_ble_eq_true rfl) (Nat.le_of_ble_eq_true rfl) (Nat.le_of_ble_eq_true rfl) (Nat.le_of_ble_eq_true rfl) (by omega) dX3_peak_19 ?_
        refine z_mmax hx hb (hml.trans hl.1.symm) hown (hts (.methodLink RX3 29 Lib.Math.max.name) (by decide +kernel)) (hts (.static Lib.Math.max.name) (by decide +kernel)) (hts (.initialized "java/lang/Math") (by decide +kernel)) (hts (.code Lib.Math.max.name Lib.Math.max.code 2 (some .int)) (by decide +kernel)) (Nat.le_of_ble_eq_true rfl) (Nat.le_of_ble_eq_true rfl) (Nat.le_of_ble_eq_true rfl) (Nat.le_of_ble_eq_true rfl) (by omega) (by omega) dX3_peak_22 ?_
        refine z_re (e2 := ((pkL n x (k + 1) : Nat) : Int)) (by rw [pkL_s n x q1]; omega) ?_
        refine lv_istore_n (lv' := [(3, .int (zI (((pkL n x (k + 1) : Nat) : Int)))), (0, .long (lN (x))), (2, .int (zI (n))), (4, .int (zI (k)))]) hx hb dX3_peak_25 rfl hl (by decide) rfl (fun ls hl => ?_)
        refine lv_iinc (v := zI (((k + 1 : Nat) : Int))) (lv' := [(4, .int (zI (((k + 1 : Nat) : Int)))), (3, .int (zI (((pkL n x (k + 1) : Nat) : Int)))), (0, .long (lN (x))), (2, .int (zI (n)))]) hx hb dX3_peak_26 hl (k := 3) rfl (zI_incr (by omega)) (by decide) rfl (fun ls hl => ?_)
        refine lv_goto (tgt := 5) hx hb dX3_peak_29 (by decide) ?_
        exact ih5 (k + 1) (by omega) (by omega) (by omega) _ (lv_sub hl [2, 3, 1, 0] rfl)
  exact lp5 _ (1) (by omega) (by omega) (Nat.lt_succ_self _) _ (lv_sub hl [2, 3, 1, 0] rfl)

-- energy(x, n)
set_option maxHeartbeats 4000000 in
set_option maxRecDepth 100000 in
theorem c_X3_energy (l : Launch) (x n : Nat) (gn : n ≤ 32) (g1 : 1 ≤ n) (gx : x < 2 ^ n) : Met l yX3_energy wsX3_energy ({ frames := 2, cells := 0, slots := 0, locals := 45 }) (va_Pc [.long (lN (x)), .int (zI (n))] (fun _ => True)) (vp_Si (fun r => r = zI (enL n x n))) 0 0 (fun _ => False) := by
  refine Met.ofW (cc := cX3_energy) (maxL := 6) (ret := (some .int)) (by decide) rfl ?_
  intro p e s m args below meth c s₁ B hml hv
  obtain ⟨rfl, -⟩ := hv
  have hx := B.exec
  have hb := B.bytes
  have hr := B.returns
  have hts := atoms_spec (ws := wsX3_energy) B.pre
  have hown : s.vm.findClass RX3 = some m.cls := findClass_of_methodNamed B.named
  have hlocks := B.notSynchronized
  have hl := lv_entry ([.long (lN (x)), .int (zI (n))]) (n := 6) (Nat.le_of_ble_eq_true rfl)
  rw [lg_entry_eq]
  generalize (lg_sl ([.long (lN (x)), .int (zI (n))]) ++ List.replicate (6 - (lg_sl ([.long (lN (x)), .int (zI (n))])).length) Slot.unset).toArray = ls at hl ⊢
  have hl : lv_has ls 6 [(0, .long (lN (x))), (2, .int (zI (n)))] := hl
  refine lv_iconst (v := zI 0) hx hb dX3_energy_0 rfl ?_
  refine z_re (e2 := enL n x 1) (rfl) ?_
  refine lv_istore_n (lv' := [(3, .int (zI (enL n x 1))), (0, .long (lN (x))), (2, .int (zI (n)))]) hx hb dX3_energy_1 rfl hl (by decide) rfl (fun ls hl => ?_)
  refine lv_iconst (v := zI 1) hx hb dX3_energy_2 rfl ?_
  refine z_re (e2 := ((1 : Nat) : Int)) (rfl) ?_
  refine lv_istore (lv' := [(4, .int (zI (((1 : Nat) : Int)))), (3, .int (zI (enL n x 1))), (0, .long (lN (x))), (2, .int (zI (n)))]) hx hb dX3_energy_3 hl (by decide) rfl (fun ls hl => ?_)
  have lp5 : ∀ (NN : Nat) (k : Nat) (q1 : 1 ≤ k) (q2 : k ≤ n), n - k < NN → ∀ (ls : Array Slot), lv_has ls 6 [(0, .long (lN (x))), (2, .int (zI (n))), (3, .int (zI (enL n x k))), (4, .int (zI (k)))] → W p l e (headSpec wsX3_energy ({ frames := 2, cells := 0, slots := 0, locals := 45 })).room s m ([.long (lN (x)), .int (zI (n))] : List Value).toArray below meth c s.heap [] 0 0 (MQ below (vp_Si (fun r => r = zI (enL n x n))) ([.long (lN (x)), .int (zI (n))] : List Value).toArray s 0 0 (fun _ => False)) (F0 m 5 ls []) := by
    intro NN
    induction NN with
    | zero =>
      intro k q1 q2 hmu
      exact absurd hmu (Nat.not_lt_zero _)
    | succ NN ih5 =>
      intro k q1 q2 hmu ls hl
      refine lv_iload hx hb dX3_energy_5 (lv_at hl 3 rfl) ?_
      refine lv_iload_n hx hb dX3_energy_7 rfl (lv_at hl 1 rfl) ?_
      refine z_icmp_ge (tgt := 34) hx hb dX3_energy_8 (by decide) (by omega) (by omega) (fun c8 => ?_) (fun c8 => ?_)
      · refine lv_iload_n hx hb dX3_energy_34 rfl (lv_at hl 2 rfl) ?_
        exact W.iret (v := (zI (enL n x k))) hx hb hr (fun t ht hW => ⟨_, rfl, by rw [show k = n by omega], ht⟩) (fun q h => by cases h) dX3_energy_35
      · refine lv_lload_n hx hb dX3_energy_11 rfl (lv_at hl 0 rfl) ?_
        refine lv_iload_n hx hb dX3_energy_12 rfl (lv_at hl 1 rfl) ?_
        refine lv_iload hx hb dX3_energy_13 (lv_at hl 3 rfl) ?_
        refine vp_callSi (va_runS (As := [.long (lN (x)), .int (zI (n)), .int (zI (k))]) (rest := []) ⟨hx, hb, hml, hown, hts⟩ (c_X3_openSum l x n k gn (by omega) gx) (va_cwS 3 hts gX3_energy_X3_openSum rfl rfl rfl (by decide +kernel) ⟨Nat.le_of_ble_eq_true rfl, Nat.le_of_ble_eq_true rfl⟩) ⟨fun a U g mk q => q, fun U hU hW => ⟨rfl, trivial⟩⟩ rfl rfl hl.1 rfl (lv_room (Nat.le_of_ble_eq_true rfl)) dX3_energy_15 ⟨Nat.le_of_ble_eq_true rfl, Nat.le_of_ble_eq_true rfl⟩).run (fun r hr15 => ?_)
        obtain rfl := hr15
        refine lv_istore (lv' := [(5, .int (zI (oS (n) (x) (k)))), (0, .long (lN (x))), (2, .int (zI (n))), (3, .int (zI (enL n x k))), (4, .int (zI (k)))]) hx hb dX3_energy_18 hl (by decide) rfl (fun ls hl => ?_)
        refine lv_iload_n hx hb dX3_energy_20 rfl (lv_at hl 3 rfl) ?_
        refine lv_iload hx hb dX3_energy_21 (lv_at hl 0 rfl) ?_
        refine lv_iload hx hb dX3_energy_23 (lv_at hl 0 rfl) ?_
        refine z_imul hx hb dX3_energy_25 ?_
        refine z_iadd hx hb dX3_energy_26 ?_
        refine z_re (e2 := enL n x (k + 1)) (by rw [enL_s n x q1]) ?_
        refine lv_istore_n (lv' := [(3, .int (zI (enL n x (k + 1)))), (5, .int (zI (oS (n) (x) (k)))), (0, .long (lN (x))), (2, .int (zI (n))), (4, .int (zI (k)))]) hx hb dX3_energy_27 rfl hl (by decide) rfl (fun ls hl => ?_)
        refine lv_iinc (v := zI (((k + 1 : Nat) : Int))) (lv' := [(4, .int (zI (((k + 1 : Nat) : Int)))), (3, .int (zI (enL n x (k + 1)))), (5, .int (zI (oS (n) (x) (k)))), (0, .long (lN (x))), (2, .int (zI (n)))]) hx hb dX3_energy_28 hl (k := 4) rfl (zI_incr (by omega)) (by decide) rfl (fun ls hl => ?_)
        refine lv_goto (tgt := 5) hx hb dX3_energy_31 (by decide) ?_
        exact ih5 (k + 1) (by omega) (by omega) (by omega) _ (lv_sub hl [3, 4, 1, 0] rfl)
  exact lp5 _ (1) (by omega) (by omega) (Nat.lt_succ_self _) _ (lv_sub hl [2, 3, 1, 0] rfl)

-- total(x, n)
set_option maxHeartbeats 4000000 in
set_option maxRecDepth 100000 in
theorem c_X3_total (l : Launch) (x n : Nat) (gn : n ≤ 32) (gx : x < 2 ^ n) : Met l yX3_total wsX3_total ({ frames := 1, cells := 0, slots := 0, locals := 21 }) (va_Pc [.long (lN (x)), .int (zI (n))] (fun _ => True)) (vp_Si (fun r => r = zI (tot n x))) 0 0 (fun _ => False) := by
  refine Met.ofW (cc := cX3_total) (maxL := 3) (ret := (some .int)) (by decide) rfl ?_
  intro p e s m args below meth c s₁ B hml hv
  obtain ⟨rfl, -⟩ := hv
  have hx := B.exec
  have hb := B.bytes
  have hr := B.returns
  have hts := atoms_spec (ws := wsX3_total) B.pre
  have hown : s.vm.findClass RX3 = some m.cls := findClass_of_methodNamed B.named
  have hlocks := B.notSynchronized
  have hl := lv_entry ([.long (lN (x)), .int (zI (n))]) (n := 3) (Nat.le_of_ble_eq_true rfl)
  rw [lg_entry_eq]
  generalize (lg_sl ([.long (lN (x)), .int (zI (n))]) ++ List.replicate (3 - (lg_sl ([.long (lN (x)), .int (zI (n))])).length) Slot.unset).toArray = ls at hl ⊢
  have hl : lv_has ls 3 [(0, .long (lN (x))), (2, .int (zI (n)))] := hl
  refine lv_iload_n hx hb dX3_total_0 rfl (lv_at hl 1 rfl) ?_
  refine lv_iconst (v := zI 2) hx hb dX3_total_1 rfl ?_
  refine lv_lload_n hx hb dX3_total_2 rfl (lv_at hl 0 rfl) ?_
  refine vp_callSi (va_runS (As := [.long (lN (x))]) (rest := [.int (zI (2)), .int (zI (n))]) ⟨hx, hb, hml, hown, hts⟩ (c_J13_bitCount_95d88 l x (lt32 gx gn)) (va_cwS 1 hts gX3_total_J13_bitCount_95d88 rfl rfl rfl (by decide +kernel) ⟨Nat.le_of_ble_eq_true rfl, Nat.le_of_ble_eq_true rfl⟩) ⟨fun a U g mk q => q, fun U hU hW => ⟨rfl, trivial⟩⟩ rfl rfl hl.1 rfl (lv_room (Nat.le_of_ble_eq_true rfl)) dX3_total_3 ⟨Nat.le_of_ble_eq_true rfl, Nat.le_of_ble_eq_true rfl⟩).run (fun r hr3 => ?_)
  obtain rfl := hr3
  refine z_imul hx hb dX3_total_6 ?_
  refine z_isub hx hb dX3_total_7 ?_
  refine z_re (e2 := tot n x) (by rw [tot_pc gn gx]) ?_
  exact W.iret (v := (zI (tot n x))) hx hb hr (fun t ht hW => ⟨_, rfl, rfl, ht⟩) (fun q h => by cases h) dX3_total_8

-- changes(x, n)
set_option maxHeartbeats 4000000 in
set_option maxRecDepth 100000 in
theorem c_X3_changes (l : Launch) (x n : Nat) (gn : n ≤ 32) (g1 : 1 ≤ n) (gx : x < 2 ^ n) : Met l yX3_changes wsX3_changes ({ frames := 1, cells := 0, slots := 0, locals := 21 }) (va_Pc [.long (lN (x)), .int (zI (n))] (fun _ => True)) (vp_Si (fun r => r = zI (chS n x : Int))) 0 0 (fun _ => False) := by
  refine Met.ofW (cc := cX3_changes) (maxL := 3) (ret := (some .int)) (by decide) rfl ?_
  intro p e s m args below meth c s₁ B hml hv
  obtain ⟨rfl, -⟩ := hv
  have hx := B.exec
  have hb := B.bytes
  have hr := B.returns
  have hts := atoms_spec (ws := wsX3_changes) B.pre
  have hown : s.vm.findClass RX3 = some m.cls := findClass_of_methodNamed B.named
  have hlocks := B.notSynchronized
  have hl := lv_entry ([.long (lN (x)), .int (zI (n))]) (n := 3) (Nat.le_of_ble_eq_true rfl)
  rw [lg_entry_eq]
  generalize (lg_sl ([.long (lN (x)), .int (zI (n))]) ++ List.replicate (3 - (lg_sl ([.long (lN (x)), .int (zI (n))])).length) Slot.unset).toArray = ls at hl ⊢
  have hl : lv_has ls 3 [(0, .long (lN (x))), (2, .int (zI (n)))] := hl
  have gx2 := lt32 gx gn
  refine lv_lload_n hx hb dX3_changes_0 rfl (lv_at hl 0 rfl) ?_
  refine lv_lload_n hx hb dX3_changes_1 rfl (lv_at hl 0 rfl) ?_
  refine lv_iconst (v := zI 1) hx hb dX3_changes_2 rfl ?_
  refine n_lushr hx hb (q := 1) (by omega) (by decide) dX3_changes_3 ?_
  refine n_lxor hx hb dX3_changes_4 ?_
  refine lv_iload_n hx hb dX3_changes_5 rfl (lv_at hl 1 rfl) ?_
  refine lv_iconst (v := zI 1) hx hb dX3_changes_6 rfl ?_
  refine z_isub hx hb dX3_changes_7 ?_
  refine z_re (e2 := ((n - 1 : Nat) : Int)) (by omega) ?_
  refine vp_callSl (va_runS (As := [.int (zI (((n - 1 : Nat) : Int)))]) (rest := [.long (lN ((x) ^^^ ((x) >>> (1))))]) ⟨hx, hb, hml, hown, hts⟩ (c_X3_mask l (n - 1) (by omega)) (va_cwS 1 hts gX3_changes_X3_mask rfl rfl rfl (by decide +kernel) ⟨Nat.le_of_ble_eq_true rfl, Nat.le_of_ble_eq_true rfl⟩) ⟨fun a U g mk q => q, fun U hU hW => ⟨rfl, trivial⟩⟩ rfl rfl hl.1 rfl (lv_room (Nat.le_of_ble_eq_true rfl)) dX3_changes_8 ⟨Nat.le_of_ble_eq_true rfl, Nat.le_of_ble_eq_true rfl⟩).run (fun r hr8 => ?_)
  obtain rfl := hr8
  refine n_land hx hb dX3_changes_11 ?_
  refine vp_callSi (va_runS (As := [.long (lN (((x) ^^^ ((x) >>> (1))) &&& (2 ^ (n - 1) - 1)))]) (rest := []) ⟨hx, hb, hml, hown, hts⟩ (c_J13_bitCount_95d88 l ((x ^^^ (x >>> 1)) &&& (2 ^ (n - 1) - 1)) (Nat.lt_of_le_of_lt Nat.and_le_left (Nat.xor_lt_two_pow (n := 32) gx2 (Nat.lt_of_le_of_lt (shr_le x 1) gx2)))) (va_cwS 1 hts gX3_changes_J13_bitCount_95d88 rfl rfl rfl (by decide +kernel) ⟨Nat.le_of_ble_eq_true rfl, Nat.le_of_ble_eq_true rfl⟩) ⟨fun a U g mk q => q, fun U hU hW => ⟨rfl, trivial⟩⟩ rfl rfl hl.1 rfl (lv_room (Nat.le_of_ble_eq_true rfl)) dX3_changes_12 ⟨Nat.le_of_ble_eq_true rfl, Nat.le_of_ble_eq_true rfl⟩).run (fun r hr12 => ?_)
  obtain rfl := hr12
  exact W.iret (v := (zI ((pc (((x) ^^^ ((x) >>> (1))) &&& (2 ^ (n - 1) - 1)) 32 : Int)))) hx hb hr (fun t ht hW => ⟨_, rfl, by rw [chS_pc gn], ht⟩) (fun q h => by cases h) dX3_changes_15

-- firstLeftOpen(a, b, n)
set_option maxHeartbeats 4000000 in
set_option maxRecDepth 100000 in
theorem c_X3_firstLeftOpen (l : Launch) (a b n : Nat) (gn : n ≤ 32) (g1 : 1 ≤ n) (ga : a < 2 ^ n) (gb : b < 2 ^ n) : Met l yX3_firstLeftOpen wsX3_firstLeftOpen ({ frames := 2, cells := 0, slots := 0, locals := 45 }) (va_Pc [.long (lN (a)), .long (lN (b)), .int (zI (n))] (fun _ => True)) (vp_Si (fun r => r = zI (ff (fun k => oS n a k + oS n b k) 1 (n - 1) : Int))) 0 0 (fun _ => False) := by
  refine Met.ofW (cc := cX3_firstLeftOpen) (maxL := 6) (ret := (some .int)) (by decide) rfl ?_
  intro p e s m args below meth c s₁ B hml hv
  obtain ⟨rfl, -⟩ := hv
  have hx := B.exec
  have hb := B.bytes
  have hr := B.returns
  have hts := atoms_spec (ws := wsX3_firstLeftOpen) B.pre
  have hown : s.vm.findClass RX3 = some m.cls := findClass_of_methodNamed B.named
  have hlocks := B.notSynchronized
  have hl := lv_entry ([.long (lN (a)), .long (lN (b)), .int (zI (n))]) (n := 6) (Nat.le_of_ble_eq_true rfl)
  rw [lg_entry_eq]
  generalize (lg_sl ([.long (lN (a)), .long (lN (b)), .int (zI (n))]) ++ List.replicate (6 - (lg_sl ([.long (lN (a)), .long (lN (b)), .int (zI (n))])).length) Slot.unset).toArray = ls at hl ⊢
  have hl : lv_has ls 6 [(0, .long (lN (a))), (2, .long (lN (b))), (4, .int (zI (n)))] := hl
  refine lv_iconst (v := zI 1) hx hb dX3_firstLeftOpen_0 rfl ?_
  refine z_re (e2 := ((1 : Nat) : Int)) (rfl) ?_
  refine lv_istore (lv' := [(5, .int (zI (((1 : Nat) : Int)))), (0, .long (lN (a))), (2, .long (lN (b))), (4, .int (zI (n)))]) hx hb dX3_firstLeftOpen_1 hl (by decide) rfl (fun ls hl => ?_)
  have lp3 : ∀ (NN : Nat) (k : Nat) (q1 : 1 ≤ k) (q2 : k ≤ n) (q3 : ff (fun k => oS n a k + oS n b k) 1 (n - 1) = ff (fun k => oS n a k + oS n b k) k (n - k)), n - k < NN → ∀ (ls : Array Slot), lv_has ls 6 [(0, .long (lN (a))), (2, .long (lN (b))), (4, .int (zI (n))), (5, .int (zI (k)))] → W p l e (headSpec wsX3_firstLeftOpen ({ frames := 2, cells := 0, slots := 0, locals := 45 })).room s m ([.long (lN (a)), .long (lN (b)), .int (zI (n))] : List Value).toArray below meth c s.heap [] 0 0 (MQ below (vp_Si (fun r => r = zI (ff (fun k => oS n a k + oS n b k) 1 (n - 1) : Int))) ([.long (lN (a)), .long (lN (b)), .int (zI (n))] : List Value).toArray s 0 0 (fun _ => False)) (F0 m 3 ls []) := by
    intro NN
    induction NN with
    | zero =>
      intro k q1 q2 q3 hmu
      exact absurd hmu (Nat.not_lt_zero _)
    | succ NN ih3 =>
      intro k q1 q2 q3 hmu ls hl
      have b1 := oS_bd n a k
      have b2 := oS_bd n b k
      refine lv_iload hx hb dX3_firstLeftOpen_3 (lv_at hl 3 rfl) ?_
      refine lv_iload hx hb dX3_firstLeftOpen_5 (lv_at hl 2 rfl) ?_
      refine z_icmp_ge (tgt := 39) hx hb dX3_firstLeftOpen_7 (by decide) (by omega) (by omega) (fun c7 => ?_) (fun c7 => ?_)
      · refine lv_iconst (v := zI 0) hx hb dX3_firstLeftOpen_39 rfl ?_
        exact W.iret (v := (zI (0))) hx hb hr (fun t ht hW => ⟨_, rfl, by rw [q3, ff_e _ (by omega)]; rfl, ht⟩) (fun q h => by cases h) dX3_firstLeftOpen_40
      · refine lv_lload_n hx hb dX3_firstLeftOpen_10 rfl (lv_at hl 0 rfl) ?_
        refine lv_iload hx hb dX3_firstLeftOpen_11 (lv_at hl 2 rfl) ?_
        refine lv_iload hx hb dX3_firstLeftOpen_13 (lv_at hl 3 rfl) ?_
        refine vp_callSi (va_runS (As := [.long (lN (a)), .int (zI (n)), .int (zI (k))]) (rest := []) ⟨hx, hb, hml, hown, hts⟩ (c_X3_openSum l a n k gn (by omega) ga) (va_cwS 3 hts gX3_firstLeftOpen_X3_openSum rfl rfl rfl (by decide +kernel) ⟨Nat.le_of_ble_eq_true rfl, Nat.le_of_ble_eq_true rfl⟩) ⟨fun a U g mk q => q, fun U hU hW => ⟨rfl, trivial⟩⟩ rfl rfl hl.1 rfl (lv_room (Nat.le_of_ble_eq_true rfl)) dX3_firstLeftOpen_15 ⟨Nat.le_of_ble_eq_true rfl, Nat.le_of_ble_eq_true rfl⟩).run (fun r hr15 => ?_)
        obtain rfl := hr15
        refine lv_lload_n hx hb dX3_firstLeftOpen_18 rfl (lv_at hl 1 rfl) ?_
        refine lv_iload hx hb dX3_firstLeftOpen_19 (lv_at hl 2 rfl) ?_
        refine lv_iload hx hb dX3_firstLeftOpen_21 (lv_at hl 3 rfl) ?_
        refine vp_callSi (va_runS (As := [.long (lN (b)), .int (zI (n)), .int (zI (k))]) (rest := [.int (zI (oS (n) (a) (k)))]) ⟨hx, hb, hml, hown, hts⟩ (c_X3_openSum l b n k gn (by omega) gb) (va_cwS 3 hts gX3_firstLeftOpen_X3_openSum rfl rfl rfl (by decide +kernel) ⟨Nat.le_of_ble_eq_true rfl, Nat.le_of_ble_eq_true rfl⟩) ⟨fun a U g mk q => q, fun U hU hW => ⟨rfl, trivial⟩⟩ rfl rfl hl.1 rfl (lv_room (Nat.le_of_ble_eq_true rfl)) dX3_firstLeftOpen_23 ⟨Nat.le_of_ble_eq_true rfl, Nat.le_of_ble_eq_true rfl⟩).run (fun r hr23 => ?_)
        obtain rfl := hr23
        refine z_iadd hx hb dX3_firstLeftOpen_26 ?_
        refine z_if_eq (tgt := 33) hx hb dX3_firstLeftOpen_27 (by decide) (by omega) (fun c27 => ?_) (fun c27 => ?_)
        · refine lv_iinc (v := zI (((k + 1 : Nat) : Int))) (lv' := [(5, .int (zI (((k + 1 : Nat) : Int)))), (0, .long (lN (a))), (2, .long (lN (b))), (4, .int (zI (n)))]) hx hb dX3_firstLeftOpen_33 hl (k := 3) rfl (zI_incr (by omega)) (by decide) rfl (fun ls hl => ?_)
          refine lv_goto (tgt := 3) hx hb dX3_firstLeftOpen_36 (by decide) ?_
          exact ih3 (k + 1) (by omega) (by omega) (by rw [q3, ff_s _ (by omega), if_neg (fun z => z c27)]) (by omega) _ (lv_sub hl [1, 2, 3, 0] rfl)
        · refine lv_iload hx hb dX3_firstLeftOpen_30 (lv_at hl 3 rfl) ?_
          exact W.iret (v := (zI (k))) hx hb hr (fun t ht hW => ⟨_, rfl, by rw [q3, ff_s _ (by omega), if_pos c27], ht⟩) (fun q h => by cases h) dX3_firstLeftOpen_32
  exact lp3 _ (1) (by omega) (by omega) (rfl) (Nat.lt_succ_self _) _ (lv_sub hl [1, 2, 3, 0] rfl)

-- reversed(x, n)
set_option maxHeartbeats 4000000 in
set_option maxRecDepth 100000 in
theorem c_X3_reversed (l : Launch) (x n : Nat) (gn : n ≤ 32) (gx : x < 2 ^ n) : Met l yX3_reversed wsX3_reversed ({ frames := 0, cells := 0, slots := 0, locals := 0 }) (va_Pc [.long (lN (x)), .int (zI (n))] (fun _ => True)) (vp_Sl (fun r => r = lN (rv n x))) 0 0 (fun _ => False) := by
  refine Met.ofW (cc := cX3_reversed) (maxL := 6) (ret := (some .long)) (by decide) rfl ?_
  intro p e s m args below meth c s₁ B hml hv
  obtain ⟨rfl, -⟩ := hv
  have hx := B.exec
  have hb := B.bytes
  have hr := B.returns
  have hts := atoms_spec (ws := wsX3_reversed) B.pre
  have hown : s.vm.findClass RX3 = some m.cls := findClass_of_methodNamed B.named
  have hlocks := B.notSynchronized
  have hl := lv_entry ([.long (lN (x)), .int (zI (n))]) (n := 6) (Nat.le_of_ble_eq_true rfl)
  rw [lg_entry_eq]
  generalize (lg_sl ([.long (lN (x)), .int (zI (n))]) ++ List.replicate (6 - (lg_sl ([.long (lN (x)), .int (zI (n))])).length) Slot.unset).toArray = ls at hl ⊢
  have hl : lv_has ls 6 [(0, .long (lN (x))), (2, .int (zI (n)))] := hl
  have gx2 := lt32 gx gn
  refine lv_lconst (v := lN 0) hx hb dX3_reversed_0 rfl ?_
  refine n_re (e2 := ob (fun j => x.testBit (0 - 1 - j)) 0) (rfl) ?_
  refine lv_lstore_n (lv' := [(3, .long (lN (ob (fun j => x.testBit (0 - 1 - j)) 0))), (0, .long (lN (x))), (2, .int (zI (n)))]) hx hb dX3_reversed_1 rfl hl (by decide) rfl (fun ls hl => ?_)
  refine lv_iconst (v := zI 0) hx hb dX3_reversed_2 rfl ?_
  refine z_re (e2 := ((0 : Nat) : Int)) (rfl) ?_
  refine lv_istore (lv' := [(5, .int (zI (((0 : Nat) : Int)))), (3, .long (lN (ob (fun j => x.testBit (0 - 1 - j)) 0))), (0, .long (lN (x))), (2, .int (zI (n)))]) hx hb dX3_reversed_3 hl (by decide) rfl (fun ls hl => ?_)
  have lp5 : ∀ (NN : Nat) (i : Nat) (q2 : i ≤ n), n - i < NN → ∀ (ls : Array Slot), lv_has ls 6 [(0, .long (lN (x))), (2, .int (zI (n))), (3, .long (lN (ob (fun j => x.testBit (i - 1 - j)) i))), (5, .int (zI (i)))] → W p l e (headSpec wsX3_reversed ({ frames := 0, cells := 0, slots := 0, locals := 0 })).room s m ([.long (lN (x)), .int (zI (n))] : List Value).toArray below meth c s.heap [] 0 0 (MQ below (vp_Sl (fun r => r = lN (rv n x))) ([.long (lN (x)), .int (zI (n))] : List Value).toArray s 0 0 (fun _ => False)) (F0 m 5 ls []) := by
    intro NN
    induction NN with
    | zero =>
      intro i q2 hmu
      exact absurd hmu (Nat.not_lt_zero _)
    | succ NN ih5 =>
      intro i q2 hmu ls hl
      refine lv_iload hx hb dX3_reversed_5 (lv_at hl 3 rfl) ?_
      refine lv_iload_n hx hb dX3_reversed_7 rfl (lv_at hl 1 rfl) ?_
      refine z_icmp_ge (tgt := 28) hx hb dX3_reversed_8 (by decide) (by omega) (by omega) (fun c8 => ?_) (fun c8 => ?_)
      · refine lv_lload_n hx hb dX3_reversed_28 rfl (lv_at hl 2 rfl) ?_
        exact W.lret (v := (lN (ob (fun j => x.testBit (i - 1 - j)) i))) hx hb hr (fun t ht hW => ⟨_, rfl, by rw [show i = n by omega]; rfl, ht⟩) (fun q h => by cases h) dX3_reversed_29
      · refine lv_lload_n hx hb dX3_reversed_11 rfl (lv_at hl 2 rfl) ?_
        refine lv_iconst (v := zI 1) hx hb dX3_reversed_12 rfl ?_
        refine n_lshl hx hb (q := 1) (by decide) dX3_reversed_13 ?_
        refine lv_lload_n hx hb dX3_reversed_14 rfl (lv_at hl 0 rfl) ?_
        refine lv_iload hx hb dX3_reversed_15 (lv_at hl 3 rfl) ?_
        refine n_lushr hx hb (q := i) (by omega) (by omega) dX3_reversed_17 ?_
        refine lv_lconst (v := lN 1) hx hb dX3_reversed_18 rfl ?_
        refine n_land hx hb dX3_reversed_19 ?_
        refine n_re (e2 := (x.testBit i).toNat) (tbN x i) ?_
        refine n_lor hx hb dX3_reversed_20 ?_
        refine n_re (e2 := ob (fun j => x.testBit (i + 1 - 1 - j)) (i + 1)) (rv_s x i) ?_
        refine lv_lstore_n (lv' := [(3, .long (lN (ob (fun j => x.testBit (i + 1 - 1 - j)) (i + 1)))), (0, .long (lN (x))), (2, .int (zI (n))), (5, .int (zI (i)))]) hx hb dX3_reversed_21 rfl hl (by decide) rfl (fun ls hl => ?_)
        refine lv_iinc (v := zI (((i + 1 : Nat) : Int))) (lv' := [(5, .int (zI (((i + 1 : Nat) : Int)))), (3, .long (lN (ob (fun j => x.testBit (i + 1 - 1 - j)) (i + 1)))), (0, .long (lN (x))), (2, .int (zI (n)))]) hx hb dX3_reversed_22 hl (k := 3) rfl (zI_incr (by omega)) (by decide) rfl (fun ls hl => ?_)
        refine lv_goto (tgt := 5) hx hb dX3_reversed_25 (by decide) ?_
        exact ih5 (i + 1) (by omega) (by omega) _ (lv_sub hl [2, 3, 1, 0] rfl)
  exact lp5 _ (0) (by omega) (Nat.lt_succ_self _) _ (lv_sub hl [2, 3, 1, 0] rfl)

-- opposite(x, n)
set_option maxHeartbeats 4000000 in
set_option maxRecDepth 100000 in
theorem c_X3_opposite (l : Launch) (x n : Nat) (gn : n ≤ 32) : Met l yX3_opposite wsX3_opposite ({ frames := 1, cells := 0, slots := 0, locals := 20 }) (va_Pc [.long (lN (x)), .int (zI (n))] (fun _ => True)) (vp_Sl (fun r => r = lN (x ^^^ (2 ^ n - 1)))) 0 0 (fun _ => False) := by
  refine Met.ofW (cc := cX3_opposite) (maxL := 3) (ret := (some .long)) (by decide) rfl ?_
  intro p e s m args below meth c s₁ B hml hv
  obtain ⟨rfl, -⟩ := hv
  have hx := B.exec
  have hb := B.bytes
  have hr := B.returns
  have hts := atoms_spec (ws := wsX3_opposite) B.pre
  have hown : s.vm.findClass RX3 = some m.cls := findClass_of_methodNamed B.named
  have hlocks := B.notSynchronized
  have hl := lv_entry ([.long (lN (x)), .int (zI (n))]) (n := 3) (Nat.le_of_ble_eq_true rfl)
  rw [lg_entry_eq]
  generalize (lg_sl ([.long (lN (x)), .int (zI (n))]) ++ List.replicate (3 - (lg_sl ([.long (lN (x)), .int (zI (n))])).length) Slot.unset).toArray = ls at hl ⊢
  have hl : lv_has ls 3 [(0, .long (lN (x))), (2, .int (zI (n)))] := hl
  refine lv_lload_n hx hb dX3_opposite_0 rfl (lv_at hl 0 rfl) ?_
  refine lv_iload_n hx hb dX3_opposite_1 rfl (lv_at hl 1 rfl) ?_
  refine vp_callSl (va_runS (As := [.int (zI (n))]) (rest := [.long (lN (x))]) ⟨hx, hb, hml, hown, hts⟩ (c_X3_mask l n gn) (va_cwS 1 hts gX3_opposite_X3_mask rfl rfl rfl (by decide +kernel) ⟨Nat.le_of_ble_eq_true rfl, Nat.le_of_ble_eq_true rfl⟩) ⟨fun a U g mk q => q, fun U hU hW => ⟨rfl, trivial⟩⟩ rfl rfl hl.1 rfl (lv_room (Nat.le_of_ble_eq_true rfl)) dX3_opposite_2 ⟨Nat.le_of_ble_eq_true rfl, Nat.le_of_ble_eq_true rfl⟩).run (fun r hr2 => ?_)
  obtain rfl := hr2
  refine n_lxor hx hb dX3_opposite_5 ?_
  exact W.lret (v := (lN ((x) ^^^ (2 ^ (n) - 1)))) hx hb hr (fun t ht hW => ⟨_, rfl, rfl, ht⟩) (fun q h => by cases h) dX3_opposite_6

-- turned(x, n, w)
set_option maxHeartbeats 4000000 in
set_option maxRecDepth 100000 in
theorem c_X3_turned (l : Launch) (x n w : Nat) (gn : n ≤ 32) (gx : x < 2 ^ n) (gw : w < 8) : Met l yX3_turned wsX3_turned ({ frames := 2, cells := 0, slots := 0, locals := 42 }) (va_Pc [.long (lN (x)), .int (zI (n)), .int (zI (w))] (fun _ => True)) (vp_Sl (fun r => r = lN (TWw n x w))) 0 0 (fun _ => False) := by
  refine Met.ofW (cc := cX3_turned) (maxL := 6) (ret := (some .long)) (by decide) rfl ?_
  intro p e s m args below meth c s₁ B hml hv
  obtain ⟨rfl, -⟩ := hv
  have hx := B.exec
  have hb := B.bytes
  have hr := B.returns
  have hts := atoms_spec (ws := wsX3_turned) B.pre
  have hown : s.vm.findClass RX3 = some m.cls := findClass_of_methodNamed B.named
  have hlocks := B.notSynchronized
  have hl := lv_entry ([.long (lN (x)), .int (zI (n)), .int (zI (w))]) (n := 6) (Nat.le_of_ble_eq_true rfl)
  rw [lg_entry_eq]
  generalize (lg_sl ([.long (lN (x)), .int (zI (n)), .int (zI (w))]) ++ List.replicate (6 - (lg_sl ([.long (lN (x)), .int (zI (n)), .int (zI (w))])).length) Slot.unset).toArray = ls at hl ⊢
  have hl : lv_has ls 6 [(0, .long (lN (x))), (2, .int (zI (n))), (3, .int (zI (w)))] := hl
  refine lv_iload_n hx hb dX3_turned_0 rfl (lv_at hl 2 rfl) ?_
  refine lv_iconst (v := zI 1) hx hb dX3_turned_1 rfl ?_
  refine n_iand hx hb (a := w) (b := 1) dX3_turned_2 ?_
  refine z_if_eq (tgt := 14) hx hb dX3_turned_3 (by decide) (and_rng w 1 gw) (fun c3 => ?_) (fun c3 => ?_)
  · refine lv_lload_n hx hb dX3_turned_14 rfl (lv_at hl 0 rfl) ?_
    refine n_re (e2 := TW n x (w.testBit 0) false false) (by rw [w_0 gw c3]; exact TW_x gx) ?_
    refine lv_lstore (lv' := [(4, .long (lN (TW n x (w.testBit 0) false false))), (0, .long (lN (x))), (2, .int (zI (n))), (3, .int (zI (w)))]) hx hb dX3_turned_15 hl (by decide) rfl (fun ls hl => ?_)
    refine lv_iload_n hx hb dX3_turned_17 rfl (lv_at hl 3 rfl) ?_
    refine lv_iconst (v := zI 2) hx hb dX3_turned_18 rfl ?_
    refine n_iand hx hb (a := w) (b := 2) dX3_turned_19 ?_
    refine z_if_eq (tgt := 32) hx hb dX3_turned_20 (by decide) (and_rng w 2 gw) (fun c20 => ?_) (fun c20 => ?_)
    · refine lv_lload hx hb dX3_turned_32 (lv_at hl 0 rfl) ?_
      refine n_re (e2 := TW n x (w.testBit 0) (w.testBit 1) false) (by rw [w_1 gw c20]) ?_
      refine lv_lstore (lv' := [(4, .long (lN (TW n x (w.testBit 0) (w.testBit 1) false))), (0, .long (lN (x))), (2, .int (zI (n))), (3, .int (zI (w)))]) hx hb dX3_turned_34 hl (by decide) rfl (fun ls hl => ?_)
      refine lv_iload_n hx hb dX3_turned_36 rfl (lv_at hl 3 rfl) ?_
      refine lv_iconst (v := zI 4) hx hb dX3_turned_37 rfl ?_
      refine n_iand hx hb (a := w) (b := 4) dX3_turned_38 ?_
      refine z_if_eq (tgt := 56) hx hb dX3_turned_39 (by decide) (and_rng w 4 gw) (fun c39 => ?_) (fun c39 => ?_)
      · refine lv_lload hx hb dX3_turned_56 (lv_at hl 0 rfl) ?_
        refine n_re (e2 := TW n x (w.testBit 0) (w.testBit 1) (w.testBit 2)) (by rw [w_2 gw c39]) ?_
        exact W.lret (v := (lN (TW n x (w.testBit 0) (w.testBit 1) (w.testBit 2)))) hx hb hr (fun t ht hW => ⟨_, rfl, rfl, ht⟩) (fun q h => by cases h) dX3_turned_58
      · refine lv_lload hx hb dX3_turned_42 (lv_at hl 0 rfl) ?_
        refine lv_ldc2 (v := lN 2863311530) hx hb hown (hts (.constantLong RX3 40 (lN 2863311530)) (by decide +kernel)) dX3_turned_44 ?_
        refine lv_iload_n hx hb dX3_turned_47 rfl (lv_at hl 2 rfl) ?_
        refine vp_callSl (va_runS (As := [.int (zI (n))]) (rest := [.long (lN (2863311530)), .long (lN (TW n x (w.testBit 0) (w.testBit 1) false))]) ⟨hx, hb, hml, hown, hts⟩ (c_X3_mask l n gn) (va_cwS 1 hts gX3_turned_X3_mask rfl rfl rfl (by decide +kernel) ⟨Nat.le_of_ble_eq_true rfl, Nat.le_of_ble_eq_true rfl⟩) ⟨fun a U g mk q => q, fun U hU hW => ⟨rfl, trivial⟩⟩ rfl rfl hl.1 rfl (lv_room (Nat.le_of_ble_eq_true rfl)) dX3_turned_48 ⟨Nat.le_of_ble_eq_true rfl, Nat.le_of_ble_eq_true rfl⟩).run (fun r hr48 => ?_)
        obtain rfl := hr48
        refine n_land hx hb dX3_turned_51 ?_
        refine n_lxor hx hb dX3_turned_52 ?_
        refine n_re (e2 := TW n x (w.testBit 0) (w.testBit 1) (w.testBit 2)) (by rw [w_2' gw c39]; exact TW_sec gn x _ _) ?_
        refine lv_goto (tgt := 58) hx hb dX3_turned_53 (by decide) ?_
        exact W.lret (v := (lN (TW n x (w.testBit 0) (w.testBit 1) (w.testBit 2)))) hx hb hr (fun t ht hW => ⟨_, rfl, rfl, ht⟩) (fun q h => by cases h) dX3_turned_58
    · refine lv_lload hx hb dX3_turned_23 (lv_at hl 0 rfl) ?_
      refine lv_iload_n hx hb dX3_turned_25 rfl (lv_at hl 2 rfl) ?_
      refine vp_callSl (va_runS (As := [.long (lN (TW n x (w.testBit 0) false false)), .int (zI (n))]) (rest := []) ⟨hx, hb, hml, hown, hts⟩ (c_X3_opposite l (TW n x (w.testBit 0) false false) n gn) (va_cwS 2 hts gX3_turned_X3_opposite rfl rfl rfl (by decide +kernel) ⟨Nat.le_of_ble_eq_true rfl, Nat.le_of_ble_eq_true rfl⟩) ⟨fun a U g mk q => q, fun U hU hW => ⟨rfl, trivial⟩⟩ rfl rfl hl.1 rfl (lv_room (Nat.le_of_ble_eq_true rfl)) dX3_turned_26 ⟨Nat.le_of_ble_eq_true rfl, Nat.le_of_ble_eq_true rfl⟩).run (fun r hr26 => ?_)
      obtain rfl := hr26
      refine n_re (e2 := TW n x (w.testBit 0) (w.testBit 1) false) (by rw [w_1' gw c20]; exact TW_op n x _) ?_
      refine lv_goto (tgt := 34) hx hb dX3_turned_29 (by decide) ?_
      refine lv_lstore (lv' := [(4, .long (lN (TW n x (w.testBit 0) (w.testBit 1) false))), (0, .long (lN (x))), (2, .int (zI (n))), (3, .int (zI (w)))]) hx hb dX3_turned_34 hl (by decide) rfl (fun ls hl => ?_)
      refine lv_iload_n hx hb dX3_turned_36 rfl (lv_at hl 3 rfl) ?_
      refine lv_iconst (v := zI 4) hx hb dX3_turned_37 rfl ?_
      refine n_iand hx hb (a := w) (b := 4) dX3_turned_38 ?_
      refine z_if_eq (tgt := 56) hx hb dX3_turned_39 (by decide) (and_rng w 4 gw) (fun c39 => ?_) (fun c39 => ?_)
      · refine lv_lload hx hb dX3_turned_56 (lv_at hl 0 rfl) ?_
        refine n_re (e2 := TW n x (w.testBit 0) (w.testBit 1) (w.testBit 2)) (by rw [w_2 gw c39]) ?_
        exact W.lret (v := (lN (TW n x (w.testBit 0) (w.testBit 1) (w.testBit 2)))) hx hb hr (fun t ht hW => ⟨_, rfl, rfl, ht⟩) (fun q h => by cases h) dX3_turned_58
      · refine lv_lload hx hb dX3_turned_42 (lv_at hl 0 rfl) ?_
        refine lv_ldc2 (v := lN 2863311530) hx hb hown (hts (.constantLong RX3 40 (lN 2863311530)) (by decide +kernel)) dX3_turned_44 ?_
        refine lv_iload_n hx hb dX3_turned_47 rfl (lv_at hl 2 rfl) ?_
        refine vp_callSl (va_runS (As := [.int (zI (n))]) (rest := [.long (lN (2863311530)), .long (lN (TW n x (w.testBit 0) (w.testBit 1) false))]) ⟨hx, hb, hml, hown, hts⟩ (c_X3_mask l n gn) (va_cwS 1 hts gX3_turned_X3_mask rfl rfl rfl (by decide +kernel) ⟨Nat.le_of_ble_eq_true rfl, Nat.le_of_ble_eq_true rfl⟩) ⟨fun a U g mk q => q, fun U hU hW => ⟨rfl, trivial⟩⟩ rfl rfl hl.1 rfl (lv_room (Nat.le_of_ble_eq_true rfl)) dX3_turned_48 ⟨Nat.le_of_ble_eq_true rfl, Nat.le_of_ble_eq_true rfl⟩).run (fun r hr48 => ?_)
        obtain rfl := hr48
        refine n_land hx hb dX3_turned_51 ?_
        refine n_lxor hx hb dX3_turned_52 ?_
        refine n_re (e2 := TW n x (w.testBit 0) (w.testBit 1) (w.testBit 2)) (by rw [w_2' gw c39]; exact TW_sec gn x _ _) ?_
        refine lv_goto (tgt := 58) hx hb dX3_turned_53 (by decide) ?_
        exact W.lret (v := (lN (TW n x (w.testBit 0) (w.testBit 1) (w.testBit 2)))) hx hb hr (fun t ht hW => ⟨_, rfl, rfl, ht⟩) (fun q h => by cases h) dX3_turned_58
  · refine lv_lload_n hx hb dX3_turned_6 rfl (lv_at hl 0 rfl) ?_
    refine lv_iload_n hx hb dX3_turned_7 rfl (lv_at hl 1 rfl) ?_
    refine vp_callSl (va_runS (As := [.long (lN (x)), .int (zI (n))]) (rest := []) ⟨hx, hb, hml, hown, hts⟩ (c_X3_reversed l x n gn gx) (va_cwS 2 hts gX3_turned_X3_reversed rfl rfl rfl (by decide +kernel) ⟨Nat.le_of_ble_eq_true rfl, Nat.le_of_ble_eq_true rfl⟩) ⟨fun a U g mk q => q, fun U hU hW => ⟨rfl, trivial⟩⟩ rfl rfl hl.1 rfl (lv_room (Nat.le_of_ble_eq_true rfl)) dX3_turned_8 ⟨Nat.le_of_ble_eq_true rfl, Nat.le_of_ble_eq_true rfl⟩).run (fun r hr8 => ?_)
    obtain rfl := hr8
    refine n_re (e2 := TW n x (w.testBit 0) false false) (by rw [w_0' gw c3]; exact TW_rev n x) ?_
    refine lv_goto (tgt := 15) hx hb dX3_turned_11 (by decide) ?_
    refine lv_lstore (lv' := [(4, .long (lN (TW n x (w.testBit 0) false false))), (0, .long (lN (x))), (2, .int (zI (n))), (3, .int (zI (w)))]) hx hb dX3_turned_15 hl (by decide) rfl (fun ls hl => ?_)
    refine lv_iload_n hx hb dX3_turned_17 rfl (lv_at hl 3 rfl) ?_
    refine lv_iconst (v := zI 2) hx hb dX3_turned_18 rfl ?_
    refine n_iand hx hb (a := w) (b := 2) dX3_turned_19 ?_
    refine z_if_eq (tgt := 32) hx hb dX3_turned_20 (by decide) (and_rng w 2 gw) (fun c20 => ?_) (fun c20 => ?_)
    · refine lv_lload hx hb dX3_turned_32 (lv_at hl 0 rfl) ?_
      refine n_re (e2 := TW n x (w.testBit 0) (w.testBit 1) false) (by rw [w_1 gw c20]) ?_
      refine lv_lstore (lv' := [(4, .long (lN (TW n x (w.testBit 0) (w.testBit 1) false))), (0, .long (lN (x))), (2, .int (zI (n))), (3, .int (zI (w)))]) hx hb dX3_turned_34 hl (by decide) rfl (fun ls hl => ?_)
      refine lv_iload_n hx hb dX3_turned_36 rfl (lv_at hl 3 rfl) ?_
      refine lv_iconst (v := zI 4) hx hb dX3_turned_37 rfl ?_
      refine n_iand hx hb (a := w) (b := 4) dX3_turned_38 ?_
      refine z_if_eq (tgt := 56) hx hb dX3_turned_39 (by decide) (and_rng w 4 gw) (fun c39 => ?_) (fun c39 => ?_)
      · refine lv_lload hx hb dX3_turned_56 (lv_at hl 0 rfl) ?_
        refine n_re (e2 := TW n x (w.testBit 0) (w.testBit 1) (w.testBit 2)) (by rw [w_2 gw c39]) ?_
        exact W.lret (v := (lN (TW n x (w.testBit 0) (w.testBit 1) (w.testBit 2)))) hx hb hr (fun t ht hW => ⟨_, rfl, rfl, ht⟩) (fun q h => by cases h) dX3_turned_58
      · refine lv_lload hx hb dX3_turned_42 (lv_at hl 0 rfl) ?_
        refine lv_ldc2 (v := lN 2863311530) hx hb hown (hts (.constantLong RX3 40 (lN 2863311530)) (by decide +kernel)) dX3_turned_44 ?_
        refine lv_iload_n hx hb dX3_turned_47 rfl (lv_at hl 2 rfl) ?_
        refine vp_callSl (va_runS (As := [.int (zI (n))]) (rest := [.long (lN (2863311530)), .long (lN (TW n x (w.testBit 0) (w.testBit 1) false))]) ⟨hx, hb, hml, hown, hts⟩ (c_X3_mask l n gn) (va_cwS 1 hts gX3_turned_X3_mask rfl rfl rfl (by decide +kernel) ⟨Nat.le_of_ble_eq_true rfl, Nat.le_of_ble_eq_true rfl⟩) ⟨fun a U g mk q => q, fun U hU hW => ⟨rfl, trivial⟩⟩ rfl rfl hl.1 rfl (lv_room (Nat.le_of_ble_eq_true rfl)) dX3_turned_48 ⟨Nat.le_of_ble_eq_true rfl, Nat.le_of_ble_eq_true rfl⟩).run (fun r hr48 => ?_)
        obtain rfl := hr48
        refine n_land hx hb dX3_turned_51 ?_
        refine n_lxor hx hb dX3_turned_52 ?_
        refine n_re (e2 := TW n x (w.testBit 0) (w.testBit 1) (w.testBit 2)) (by rw [w_2' gw c39]; exact TW_sec gn x _ _) ?_
        refine lv_goto (tgt := 58) hx hb dX3_turned_53 (by decide) ?_
        exact W.lret (v := (lN (TW n x (w.testBit 0) (w.testBit 1) (w.testBit 2)))) hx hb hr (fun t ht hW => ⟨_, rfl, rfl, ht⟩) (fun q h => by cases h) dX3_turned_58
    · refine lv_lload hx hb dX3_turned_23 (lv_at hl 0 rfl) ?_
      refine lv_iload_n hx hb dX3_turned_25 rfl (lv_at hl 2 rfl) ?_
      refine vp_callSl (va_runS (As := [.long (lN (TW n x (w.testBit 0) false false)), .int (zI (n))]) (rest := []) ⟨hx, hb, hml, hown, hts⟩ (c_X3_opposite l (TW n x (w.testBit 0) false false) n gn) (va_cwS 2 hts gX3_turned_X3_opposite rfl rfl rfl (by decide +kernel) ⟨Nat.le_of_ble_eq_true rfl, Nat.le_of_ble_eq_true rfl⟩) ⟨fun a U g mk q => q, fun U hU hW => ⟨rfl, trivial⟩⟩ rfl rfl hl.1 rfl (lv_room (Nat.le_of_ble_eq_true rfl)) dX3_turned_26 ⟨Nat.le_of_ble_eq_true rfl, Nat.le_of_ble_eq_true rfl⟩).run (fun r hr26 => ?_)
      obtain rfl := hr26
      refine n_re (e2 := TW n x (w.testBit 0) (w.testBit 1) false) (by rw [w_1' gw c20]; exact TW_op n x _) ?_
      refine lv_goto (tgt := 34) hx hb dX3_turned_29 (by decide) ?_
      refine lv_lstore (lv' := [(4, .long (lN (TW n x (w.testBit 0) (w.testBit 1) false))), (0, .long (lN (x))), (2, .int (zI (n))), (3, .int (zI (w)))]) hx hb dX3_turned_34 hl (by decide) rfl (fun ls hl => ?_)
      refine lv_iload_n hx hb dX3_turned_36 rfl (lv_at hl 3 rfl) ?_
      refine lv_iconst (v := zI 4) hx hb dX3_turned_37 rfl ?_
      refine n_iand hx hb (a := w) (b := 4) dX3_turned_38 ?_
      refine z_if_eq (tgt := 56) hx hb dX3_turned_39 (by decide) (and_rng w 4 gw) (fun c39 => ?_) (fun c39 => ?_)
      · refine lv_lload hx hb dX3_turned_56 (lv_at hl 0 rfl) ?_
        refine n_re (e2 := TW n x (w.testBit 0) (w.testBit 1) (w.testBit 2)) (by rw [w_2 gw c39]) ?_
        exact W.lret (v := (lN (TW n x (w.testBit 0) (w.testBit 1) (w.testBit 2)))) hx hb hr (fun t ht hW => ⟨_, rfl, rfl, ht⟩) (fun q h => by cases h) dX3_turned_58
      · refine lv_lload hx hb dX3_turned_42 (lv_at hl 0 rfl) ?_
        refine lv_ldc2 (v := lN 2863311530) hx hb hown (hts (.constantLong RX3 40 (lN 2863311530)) (by decide +kernel)) dX3_turned_44 ?_
        refine lv_iload_n hx hb dX3_turned_47 rfl (lv_at hl 2 rfl) ?_
        refine vp_callSl (va_runS (As := [.int (zI (n))]) (rest := [.long (lN (2863311530)), .long (lN (TW n x (w.testBit 0) (w.testBit 1) false))]) ⟨hx, hb, hml, hown, hts⟩ (c_X3_mask l n gn) (va_cwS 1 hts gX3_turned_X3_mask rfl rfl rfl (by decide +kernel) ⟨Nat.le_of_ble_eq_true rfl, Nat.le_of_ble_eq_true rfl⟩) ⟨fun a U g mk q => q, fun U hU hW => ⟨rfl, trivial⟩⟩ rfl rfl hl.1 rfl (lv_room (Nat.le_of_ble_eq_true rfl)) dX3_turned_48 ⟨Nat.le_of_ble_eq_true rfl, Nat.le_of_ble_eq_true rfl⟩).run (fun r hr48 => ?_)
        obtain rfl := hr48
        refine n_land hx hb dX3_turned_51 ?_
        refine n_lxor hx hb dX3_turned_52 ?_
        refine n_re (e2 := TW n x (w.testBit 0) (w.testBit 1) (w.testBit 2)) (by rw [w_2' gw c39]; exact TW_sec gn x _ _) ?_
        refine lv_goto (tgt := 58) hx hb dX3_turned_53 (by decide) ?_
        exact W.lret (v := (lN (TW n x (w.testBit 0) (w.testBit 1) (w.testBit 2)))) hx hb hr (fun t ht hW => ⟨_, rfl, rfl, ht⟩) (fun q h => by cases h) dX3_turned_58

-- leastTurned(x, n)
set_option maxHeartbeats 4000000 in
set_option maxRecDepth 100000 in
theorem c_X3_leastTurned (l : Launch) (x n : Nat) (gn : n ≤ 32) (gx : x < 2 ^ n) : Met l yX3_leastTurned wsX3_leastTurned ({ frames := 3, cells := 0, slots := 0, locals := 67 }) (va_Pc [.long (lN (x)), .int (zI (n))] (fun _ => True)) (vp_Sl (fun r => r = lN (ltw n x 8))) 0 0 (fun _ => False) := by
  refine Met.ofW (cc := cX3_leastTurned) (maxL := 6) (ret := (some .long)) (by decide) rfl ?_
  intro p e s m args below meth c s₁ B hml hv
  obtain ⟨rfl, -⟩ := hv
  have hx := B.exec
  have hb := B.bytes
  have hr := B.returns
  have hts := atoms_spec (ws := wsX3_leastTurned) B.pre
  have hown : s.vm.findClass RX3 = some m.cls := findClass_of_methodNamed B.named
  have hlocks := B.notSynchronized
  have hl := lv_entry ([.long (lN (x)), .int (zI (n))]) (n := 6) (Nat.le_of_ble_eq_true rfl)
  rw [lg_entry_eq]
  generalize (lg_sl ([.long (lN (x)), .int (zI (n))]) ++ List.replicate (6 - (lg_sl ([.long (lN (x)), .int (zI (n))])).length) Slot.unset).toArray = ls at hl ⊢
  have hl : lv_has ls 6 [(0, .long (lN (x))), (2, .int (zI (n)))] := hl
  refine lv_lload_n hx hb dX3_leastTurned_0 rfl (lv_at hl 0 rfl) ?_
  refine n_re (e2 := ltw n x 1) ((ltw_1 gx).symm) ?_
  refine lv_lstore_n (lv' := [(3, .long (lN (ltw n x 1))), (0, .long (lN (x))), (2, .int (zI (n)))]) hx hb dX3_leastTurned_1 rfl hl (by decide) rfl (fun ls hl => ?_)
  refine lv_iconst (v := zI 1) hx hb dX3_leastTurned_2 rfl ?_
  refine z_re (e2 := ((1 : Nat) : Int)) (rfl) ?_
  refine lv_istore (lv' := [(5, .int (zI (((1 : Nat) : Int)))), (3, .long (lN (ltw n x 1))), (0, .long (lN (x))), (2, .int (zI (n)))]) hx hb dX3_leastTurned_3 hl (by decide) rfl (fun ls hl => ?_)
  have lp5 : ∀ (NN : Nat) (w : Nat) (q1 : 1 ≤ w) (q2 : w ≤ 8), 8 - w < NN → ∀ (ls : Array Slot), lv_has ls 6 [(0, .long (lN (x))), (2, .int (zI (n))), (3, .long (lN (ltw n x w))), (5, .int (zI (w)))] → W p l e (headSpec wsX3_leastTurned ({ frames := 3, cells := 0, slots := 0, locals := 67 })).room s m ([.long (lN (x)), .int (zI (n))] : List Value).toArray below meth c s.heap [] 0 0 (MQ below (vp_Sl (fun r => r = lN (ltw n x 8))) ([.long (lN (x)), .int (zI (n))] : List Value).toArray s 0 0 (fun _ => False)) (F0 m 5 ls []) := by
    intro NN
    induction NN with
    | zero =>
      intro w q1 q2 hmu
      exact absurd hmu (Nat.not_lt_zero _)
    | succ NN ih5 =>
      intro w q1 q2 hmu ls hl
      have b1 := lt32 (ltw_lt gx w) gn
      have b2 := lt32 (TWw_lt n x w) gn
      refine lv_iload hx hb dX3_leastTurned_5 (lv_at hl 3 rfl) ?_
      refine lv_bipush (v := zI 8) hx hb dX3_leastTurned_7 (by decide +kernel) ?_
      refine z_icmp_ge (tgt := 30) hx hb dX3_leastTurned_9 (by decide) (by omega) (by omega) (fun c9 => ?_) (fun c9 => ?_)
      · refine lv_lload_n hx hb dX3_leastTurned_30 rfl (lv_at hl 2 rfl) ?_
        exact W.lret (v := (lN (ltw n x w))) hx hb hr (fun t ht hW => ⟨_, rfl, by rw [show w = 8 by omega], ht⟩) (fun q h => by cases h) dX3_leastTurned_31
      · refine lv_lload_n hx hb dX3_leastTurned_12 rfl (lv_at hl 2 rfl) ?_
        refine lv_lload_n hx hb dX3_leastTurned_13 rfl (lv_at hl 0 rfl) ?_
        refine lv_iload_n hx hb dX3_leastTurned_14 rfl (lv_at hl 1 rfl) ?_
        refine lv_iload hx hb dX3_leastTurned_15 (lv_at hl 3 rfl) ?_
        refine vp_callSl (va_runS (As := [.long (lN (x)), .int (zI (n)), .int (zI (w))]) (rest := [.long (lN (ltw n x w))]) ⟨hx, hb, hml, hown, hts⟩ (c_X3_turned l x n w gn gx (by omega)) (va_cwS 3 hts gX3_leastTurned_X3_turned rfl rfl rfl (by decide +kernel) ⟨Nat.le_of_ble_eq_true rfl, Nat.le_of_ble_eq_true rfl⟩) ⟨fun a U g mk q => q, fun U hU hW => ⟨rfl, trivial⟩⟩ rfl rfl hl.1 rfl (lv_room (Nat.le_of_ble_eq_true rfl)) dX3_leastTurned_17 ⟨Nat.le_of_ble_eq_true rfl, Nat.le_of_ble_eq_true rfl⟩).run (fun r hr17 => ?_)
        obtain rfl := hr17
        refine z_mminl hx hb (hml.trans hl.1.symm) hown (hts (.methodLink RX3 46 Lib.MathLoose.min_long.x) (by decide +kernel)) (hts (.static Lib.MathLoose.min_long.x) (by decide +kernel)) (hts (.initialized "java/lang/Math") (by decide +kernel)) (hts (.code Lib.MathLoose.min_long.x Lib.MathLoose.min_long.code 4 (some .long)) (by decide +kernel)) (Nat.le_of_ble_eq_true rfl) (Nat.le_of_ble_eq_true rfl) (Nat.le_of_ble_eq_true rfl) (Nat.le_of_ble_eq_true rfl) (by omega) (by omega) dX3_leastTurned_20 ?_
        refine n_re (e2 := ltw n x (w + 1)) (rfl) ?_
        refine lv_lstore_n (lv' := [(3, .long (lN (ltw n x (w + 1)))), (0, .long (lN (x))), (2, .int (zI (n))), (5, .int (zI (w)))]) hx hb dX3_leastTurned_23 rfl hl (by decide) rfl (fun ls hl => ?_)
        refine lv_iinc (v := zI (((w + 1 : Nat) : Int))) (lv' := [(5, .int (zI (((w + 1 : Nat) : Int)))), (3, .long (lN (ltw n x (w + 1)))), (0, .long (lN (x))), (2, .int (zI (n)))]) hx hb dX3_leastTurned_24 hl (k := 3) rfl (zI_incr (by omega)) (by decide) rfl (fun ls hl => ?_)
        refine lv_goto (tgt := 5) hx hb dX3_leastTurned_27 (by decide) ?_
        exact ih5 (w + 1) (by omega) (by omega) (by omega) _ (lv_sub hl [2, 3, 1, 0] rfl)
  exact lp5 _ (1) (by omega) (by omega) (Nat.lt_succ_self _) _ (lv_sub hl [2, 3, 1, 0] rfl)

-- isNewTurned(x, n, w)
set_option maxHeartbeats 4000000 in
set_option maxRecDepth 100000 in
theorem c_X3_isNewTurned (l : Launch) (x n w : Nat) (gn : n ≤ 32) (gx : x < 2 ^ n) (gw : w < 8) : Met l yX3_isNewTurned wsX3_isNewTurned ({ frames := 3, cells := 0, slots := 0, locals := 67 }) (va_Pc [.long (lN (x)), .int (zI (n)), .int (zI (w))] (fun _ => True)) (vp_Si (fun r => r = zI (bP (nwT n x w = true)))) 0 0 (fun _ => False) := by
  refine Met.ofW (cc := cX3_isNewTurned) (maxL := 7) (ret := (some .boolean)) (by decide) rfl ?_
  intro p e s m args below meth c s₁ B hml hv
  obtain ⟨rfl, -⟩ := hv
  have hx := B.exec
  have hb := B.bytes
  have hr := B.returns
  have hts := atoms_spec (ws := wsX3_isNewTurned) B.pre
  have hown : s.vm.findClass RX3 = some m.cls := findClass_of_methodNamed B.named
  have hlocks := B.notSynchronized
  have hl := lv_entry ([.long (lN (x)), .int (zI (n)), .int (zI (w))]) (n := 7) (Nat.le_of_ble_eq_true rfl)
  rw [lg_entry_eq]
  generalize (lg_sl ([.long (lN (x)), .int (zI (n)), .int (zI (w))]) ++ List.replicate (7 - (lg_sl ([.long (lN (x)), .int (zI (n)), .int (zI (w))])).length) Slot.unset).toArray = ls at hl ⊢
  have hl : lv_has ls 7 [(0, .long (lN (x))), (2, .int (zI (n))), (3, .int (zI (w)))] := hl
  refine lv_lload_n hx hb dX3_isNewTurned_0 rfl (lv_at hl 0 rfl) ?_
  refine lv_iload_n hx hb dX3_isNewTurned_1 rfl (lv_at hl 1 rfl) ?_
  refine lv_iload_n hx hb dX3_isNewTurned_2 rfl (lv_at hl 2 rfl) ?_
  refine vp_callSl (va_runS (As := [.long (lN (x)), .int (zI (n)), .int (zI (w))]) (rest := []) ⟨hx, hb, hml, hown, hts⟩ (c_X3_turned l x n w gn gx gw) (va_cwS 3 hts gX3_isNewTurned_X3_turned rfl rfl rfl (by decide +kernel) ⟨Nat.le_of_ble_eq_true rfl, Nat.le_of_ble_eq_true rfl⟩) ⟨fun a U g mk q => q, fun U hU hW => ⟨rfl, trivial⟩⟩ rfl rfl hl.1 rfl (lv_room (Nat.le_of_ble_eq_true rfl)) dX3_isNewTurned_3 ⟨Nat.le_of_ble_eq_true rfl, Nat.le_of_ble_eq_true rfl⟩).run (fun r hr3 => ?_)
  obtain rfl := hr3
  refine lv_lstore (lv' := [(4, .long (lN (TWw (n) (x) (w)))), (0, .long (lN (x))), (2, .int (zI (n))), (3, .int (zI (w)))]) hx hb dX3_isNewTurned_6 hl (by decide) rfl (fun ls hl => ?_)
  refine lv_iconst (v := zI 0) hx hb dX3_isNewTurned_8 rfl ?_
  refine z_re (e2 := ((0 : Nat) : Int)) (rfl) ?_
  refine lv_istore (lv' := [(6, .int (zI (((0 : Nat) : Int)))), (4, .long (lN (TWw (n) (x) (w)))), (0, .long (lN (x))), (2, .int (zI (n))), (3, .int (zI (w)))]) hx hb dX3_isNewTurned_9 hl (by decide) rfl (fun ls hl => ?_)
  have lp11 : ∀ (NN : Nat) (j : Nat) (q1 : j ≤ w) (q2 : ∀ i, i < j → ¬ TWw n x i = TWw n x w), w - j < NN → ∀ (ls : Array Slot), lv_has ls 7 [(0, .long (lN (x))), (2, .int (zI (n))), (3, .int (zI (w))), (4, .long (lN (TWw n x w))), (6, .int (zI (j)))] → W p l e (headSpec wsX3_isNewTurned ({ frames := 3, cells := 0, slots := 0, locals := 67 })).room s m ([.long (lN (x)), .int (zI (n)), .int (zI (w))] : List Value).toArray below meth c s.heap [] 0 0 (MQ below (vp_Si (fun r => r = zI (bP (nwT n x w = true)))) ([.long (lN (x)), .int (zI (n)), .int (zI (w))] : List Value).toArray s 0 0 (fun _ => False)) (F0 m 11 ls []) := by
    intro NN
    induction NN with
    | zero =>
      intro j q1 q2 hmu
      exact absurd hmu (Nat.not_lt_zero _)
    | succ NN ih11 =>
      intro j q1 q2 hmu ls hl
      have b1 := lt32 (TWw_lt n x w) gn
      have b2 := lt32 (TWw_lt n x j) gn
      refine lv_iload hx hb dX3_isNewTurned_11 (lv_at hl 4 rfl) ?_
      refine lv_iload_n hx hb dX3_isNewTurned_13 rfl (lv_at hl 2 rfl) ?_
      refine z_icmp_ge (tgt := 38) hx hb dX3_isNewTurned_14 (by decide) (by omega) (by omega) (fun c14 => ?_) (fun c14 => ?_)
      · refine lv_iconst (v := zI 1) hx hb dX3_isNewTurned_38 rfl ?_
        exact W.zret (v := (zI (1))) hx hb hr (nar_b _ (by first | exact Or.inl rfl | exact Or.inr rfl | exact bP_or _)) (fun t ht hW => ⟨_, rfl, by rw [bP_1 (nwT_iff.mpr (fun i hi => q2 i (by omega)))], ht⟩) (fun q h => by cases h) dX3_isNewTurned_39
      · refine lv_lload_n hx hb dX3_isNewTurned_17 rfl (lv_at hl 0 rfl) ?_
        refine lv_iload_n hx hb dX3_isNewTurned_18 rfl (lv_at hl 1 rfl) ?_
        refine lv_iload hx hb dX3_isNewTurned_19 (lv_at hl 4 rfl) ?_
        refine vp_callSl (va_runS (As := [.long (lN (x)), .int (zI (n)), .int (zI (j))]) (rest := []) ⟨hx, hb, hml, hown, hts⟩ (c_X3_turned l x n j gn gx (by omega)) (va_cwS 3 hts gX3_isNewTurned_X3_turned rfl rfl rfl (by decide +kernel) ⟨Nat.le_of_ble_eq_true rfl, Nat.le_of_ble_eq_true rfl⟩) ⟨fun a U g mk q => q, fun U hU hW => ⟨rfl, trivial⟩⟩ rfl rfl hl.1 rfl (lv_room (Nat.le_of_ble_eq_true rfl)) dX3_isNewTurned_21 ⟨Nat.le_of_ble_eq_true rfl, Nat.le_of_ble_eq_true rfl⟩).run (fun r hr21 => ?_)
        obtain rfl := hr21
        refine lv_lload hx hb dX3_isNewTurned_24 (lv_at hl 3 rfl) ?_
        refine z_lcmp_ne (a := ((TWw (n) (x) (j) : Nat) : Int)) (b := ((TWw n x w : Nat) : Int)) (tgt := 32) hx hb dX3_isNewTurned_26 dX3_isNewTurned_27 (by decide) (lN_toI (by omega)) (lN_toI (by omega)) (fun c26 => ?_) (fun c26 => ?_)
        · refine lv_iinc (v := zI (((j + 1 : Nat) : Int))) (lv' := [(6, .int (zI (((j + 1 : Nat) : Int)))), (0, .long (lN (x))), (2, .int (zI (n))), (3, .int (zI (w))), (4, .long (lN (TWw n x w)))]) hx hb dX3_isNewTurned_32 hl (k := 4) rfl (zI_incr (by omega)) (by decide) rfl (fun ls hl => ?_)
          refine lv_goto (tgt := 11) hx hb dX3_isNewTurned_35 (by decide) ?_
          exact ih11 (j + 1) (by omega) (fun i hi => (Nat.lt_succ_iff_lt_or_eq.mp hi).elim (q2 i) (fun z => by rw [z]; exact fun y => c26 (by rw [y]))) (by omega) _ (lv_sub hl [1, 2, 3, 4, 0] rfl)
        · refine lv_iconst (v := zI 0) hx hb dX3_isNewTurned_30 rfl ?_
          exact W.zret (v := (zI (0))) hx hb hr (nar_b _ (by first | exact Or.inl rfl | exact Or.inr rfl | exact bP_or _)) (fun t ht hW => ⟨_, rfl, by rw [bP_0 (fun z => nwT_iff.mp z j (by omega) (by omega))], ht⟩) (fun q h => by cases h) dX3_isNewTurned_31
  exact lp11 _ (0) (by omega) (fun i hi => absurd hi (Nat.not_lt_zero i)) (Nat.lt_succ_self _) _ (lv_sub hl [2, 3, 4, 1, 0] rfl)

-- unlikeTurned(x, n)
set_option maxHeartbeats 4000000 in
set_option maxRecDepth 100000 in
theorem c_X3_unlikeTurned (l : Launch) (x n : Nat) (gn : n ≤ 32) (gx : x < 2 ^ n) : Met l yX3_unlikeTurned wsX3_unlikeTurned ({ frames := 4, cells := 0, slots := 0, locals := 93 }) (va_Pc [.long (lN (x)), .int (zI (n))] (fun _ => True)) (vp_Si (fun r => r = zI (cntw n x 8 : Int))) 0 0 (fun _ => False) := by
  refine Met.ofW (cc := cX3_unlikeTurned) (maxL := 5) (ret := (some .int)) (by decide) rfl ?_
  intro p e s m args below meth c s₁ B hml hv
  obtain ⟨rfl, -⟩ := hv
  have hx := B.exec
  have hb := B.bytes
  have hr := B.returns
  have hts := atoms_spec (ws := wsX3_unlikeTurned) B.pre
  have hown : s.vm.findClass RX3 = some m.cls := findClass_of_methodNamed B.named
  have hlocks := B.notSynchronized
  have hl := lv_entry ([.long (lN (x)), .int (zI (n))]) (n := 5) (Nat.le_of_ble_eq_true rfl)
  rw [lg_entry_eq]
  generalize (lg_sl ([.long (lN (x)), .int (zI (n))]) ++ List.replicate (5 - (lg_sl ([.long (lN (x)), .int (zI (n))])).length) Slot.unset).toArray = ls at hl ⊢
  have hl : lv_has ls 5 [(0, .long (lN (x))), (2, .int (zI (n)))] := hl
  refine lv_iconst (v := zI 0) hx hb dX3_unlikeTurned_0 rfl ?_
  refine z_re (e2 := ((cntw n x 0 : Nat) : Int)) (rfl) ?_
  refine lv_istore_n (lv' := [(3, .int (zI (((cntw n x 0 : Nat) : Int)))), (0, .long (lN (x))), (2, .int (zI (n)))]) hx hb dX3_unlikeTurned_1 rfl hl (by decide) rfl (fun ls hl => ?_)
  refine lv_iconst (v := zI 0) hx hb dX3_unlikeTurned_2 rfl ?_
  refine z_re (e2 := ((0 : Nat) : Int)) (rfl) ?_
  refine lv_istore (lv' := [(4, .int (zI (((0 : Nat) : Int)))), (3, .int (zI (((cntw n x 0 : Nat) : Int)))), (0, .long (lN (x))), (2, .int (zI (n)))]) hx hb dX3_unlikeTurned_3 hl (by decide) rfl (fun ls hl => ?_)
  have lp5 : ∀ (NN : Nat) (w : Nat) (q2 : w ≤ 8), 8 - w < NN → ∀ (ls : Array Slot), lv_has ls 5 [(0, .long (lN (x))), (2, .int (zI (n))), (3, .int (zI (((cntw n x w : Nat) : Int)))), (4, .int (zI (w)))] → W p l e (headSpec wsX3_unlikeTurned ({ frames := 4, cells := 0, slots := 0, locals := 93 })).room s m ([.long (lN (x)), .int (zI (n))] : List Value).toArray below meth c s.heap [] 0 0 (MQ below (vp_Si (fun r => r = zI (cntw n x 8 : Int))) ([.long (lN (x)), .int (zI (n))] : List Value).toArray s 0 0 (fun _ => False)) (F0 m 5 ls []) := by
    intro NN
    induction NN with
    | zero =>
      intro w q2 hmu
      exact absurd hmu (Nat.not_lt_zero _)
    | succ NN ih5 =>
      intro w q2 hmu ls hl
      refine lv_iload hx hb dX3_unlikeTurned_5 (lv_at hl 3 rfl) ?_
      refine lv_bipush (v := zI 8) hx hb dX3_unlikeTurned_7 (by decide +kernel) ?_
      refine z_icmp_ge (tgt := 36) hx hb dX3_unlikeTurned_9 (by decide) (by omega) (by omega) (fun c9 => ?_) (fun c9 => ?_)
      · refine lv_iload_n hx hb dX3_unlikeTurned_36 rfl (lv_at hl 2 rfl) ?_
        exact W.iret (v := (zI (((cntw n x w : Nat) : Int)))) hx hb hr (fun t ht hW => ⟨_, rfl, by rw [show w = 8 by omega], ht⟩) (fun q h => by cases h) dX3_unlikeTurned_37
      · refine lv_iload_n hx hb dX3_unlikeTurned_12 rfl (lv_at hl 2 rfl) ?_
        refine lv_lload_n hx hb dX3_unlikeTurned_13 rfl (lv_at hl 0 rfl) ?_
        refine lv_iload_n hx hb dX3_unlikeTurned_14 rfl (lv_at hl 1 rfl) ?_
        refine lv_iload hx hb dX3_unlikeTurned_15 (lv_at hl 3 rfl) ?_
        refine vp_callSi (va_runS (As := [.long (lN (x)), .int (zI (n)), .int (zI (w))]) (rest := [.int (zI (((cntw n x w : Nat) : Int)))]) ⟨hx, hb, hml, hown, hts⟩ (c_X3_isNewTurned l x n w gn gx (by omega)) (va_cwS 3 hts gX3_unlikeTurned_X3_isNewTurned rfl rfl rfl (by decide +kernel) ⟨Nat.le_of_ble_eq_true rfl, Nat.le_of_ble_eq_true rfl⟩) ⟨fun a U g mk q => q, fun U hU hW => ⟨rfl, trivial⟩⟩ rfl rfl hl.1 rfl (lv_room (Nat.le_of_ble_eq_true rfl)) dX3_unlikeTurned_17 ⟨Nat.le_of_ble_eq_true rfl, Nat.le_of_ble_eq_true rfl⟩).run (fun r hr17 => ?_)
        obtain rfl := hr17
        refine z_ifb_eq (P := nwT (n) (x) (w) = true) (tgt := 27) hx hb dX3_unlikeTurned_20 (by decide) (fun c20 => ?_) (fun c20 => ?_)
        · refine lv_iconst (v := zI 0) hx hb dX3_unlikeTurned_27 rfl ?_
          refine z_iadd hx hb dX3_unlikeTurned_28 ?_
          refine z_re (e2 := ((cntw n x (w + 1) : Nat) : Int)) (by rw [cntw_s, if_neg c20]; omega) ?_
          refine lv_istore_n (lv' := [(3, .int (zI (((cntw n x (w + 1) : Nat) : Int)))), (0, .long (lN (x))), (2, .int (zI (n))), (4, .int (zI (w)))]) hx hb dX3_unlikeTurned_29 rfl hl (by decide) rfl (fun ls hl => ?_)
          refine lv_iinc (v := zI (((w + 1 : Nat) : Int))) (lv' := [(4, .int (zI (((w + 1 : Nat) : Int)))), (3, .int (zI (((cntw n x (w + 1) : Nat) : Int)))), (0, .long (lN (x))), (2, .int (zI (n)))]) hx hb dX3_unlikeTurned_30 hl (k := 3) rfl (zI_incr (by omega)) (by decide) rfl (fun ls hl => ?_)
          refine lv_goto (tgt := 5) hx hb dX3_unlikeTurned_33 (by decide) ?_
          exact ih5 (w + 1) (by omega) (by omega) _ (lv_sub hl [2, 3, 1, 0] rfl)
        · refine lv_iconst (v := zI 1) hx hb dX3_unlikeTurned_23 rfl ?_
          refine lv_goto (tgt := 28) hx hb dX3_unlikeTurned_24 (by decide) ?_
          refine z_iadd hx hb dX3_unlikeTurned_28 ?_
          refine z_re (e2 := ((cntw n x (w + 1) : Nat) : Int)) (by rw [cntw_s, if_pos c20]; omega) ?_
          refine lv_istore_n (lv' := [(3, .int (zI (((cntw n x (w + 1) : Nat) : Int)))), (0, .long (lN (x))), (2, .int (zI (n))), (4, .int (zI (w)))]) hx hb dX3_unlikeTurned_29 rfl hl (by decide) rfl (fun ls hl => ?_)
          refine lv_iinc (v := zI (((w + 1 : Nat) : Int))) (lv' := [(4, .int (zI (((w + 1 : Nat) : Int)))), (3, .int (zI (((cntw n x (w + 1) : Nat) : Int)))), (0, .long (lN (x))), (2, .int (zI (n)))]) hx hb dX3_unlikeTurned_30 hl (k := 3) rfl (zI_incr (by omega)) (by decide) rfl (fun ls hl => ?_)
          refine lv_goto (tgt := 5) hx hb dX3_unlikeTurned_33 (by decide) ?_
          exact ih5 (w + 1) (by omega) (by omega) _ (lv_sub hl [2, 3, 1, 0] rfl)
  exact lp5 _ (0) (by omega) (Nat.lt_succ_self _) _ (lv_sub hl [2, 3, 1, 0] rfl)

-- joined(a, la, b)
set_option maxHeartbeats 4000000 in
set_option maxRecDepth 100000 in
theorem c_X3_joined (l : Launch) (a la b : Nat) (gl : la < 64) : Met l yX3_joined wsX3_joined ({ frames := 0, cells := 0, slots := 0, locals := 0 }) (va_Pc [.long (lN (a)), .int (zI (la)), .long (lN (b))] (fun _ => True)) (vp_Sl (fun r => r = lN (jn a la b))) 0 0 (fun _ => False) := by
  refine Met.ofW (cc := cX3_joined) (maxL := 5) (ret := (some .long)) (by decide) rfl ?_
  intro p e s m args below meth c s₁ B hml hv
  obtain ⟨rfl, -⟩ := hv
  have hx := B.exec
  have hb := B.bytes
  have hr := B.returns
  have hts := atoms_spec (ws := wsX3_joined) B.pre
  have hown : s.vm.findClass RX3 = some m.cls := findClass_of_methodNamed B.named
  have hlocks := B.notSynchronized
  have hl := lv_entry ([.long (lN (a)), .int (zI (la)), .long (lN (b))]) (n := 5) (Nat.le_of_ble_eq_true rfl)
  rw [lg_entry_eq]
  generalize (lg_sl ([.long (lN (a)), .int (zI (la)), .long (lN (b))]) ++ List.replicate (5 - (lg_sl ([.long (lN (a)), .int (zI (la)), .long (lN (b))])).length) Slot.unset).toArray = ls at hl ⊢
  have hl : lv_has ls 5 [(0, .long (lN (a))), (2, .int (zI (la))), (3, .long (lN (b)))] := hl
  refine lv_lload_n hx hb dX3_joined_0 rfl (lv_at hl 0 rfl) ?_
  refine lv_lload_n hx hb dX3_joined_1 rfl (lv_at hl 2 rfl) ?_
  refine lv_iload_n hx hb dX3_joined_2 rfl (lv_at hl 1 rfl) ?_
  refine n_lshl hx hb (q := la) (by omega) dX3_joined_3 ?_
  refine n_lor hx hb dX3_joined_4 ?_
  exact W.lret (v := (lN ((a) ||| ((b) <<< (la))))) hx hb hr (fun t ht hW => ⟨_, rfl, rfl, ht⟩) (fun q h => by cases h) dX3_joined_5

-- woven(a, b, n)
set_option maxHeartbeats 4000000 in
set_option maxRecDepth 100000 in
theorem c_X3_woven (l : Launch) (a b n : Nat) (gn : n ≤ 16) (ga : a < 4294967296) (gb : b < 4294967296) : Met l yX3_woven wsX3_woven ({ frames := 0, cells := 0, slots := 0, locals := 0 }) (va_Pc [.long (lN (a)), .long (lN (b)), .int (zI (n))] (fun _ => True)) (vp_Sl (fun r => r = lN (wv a b n))) 0 0 (fun _ => False) := by
  refine Met.ofW (cc := cX3_woven) (maxL := 8) (ret := (some .long)) (by decide) rfl ?_
  intro p e s m args below meth c s₁ B hml hv
  obtain ⟨rfl, -⟩ := hv
  have hx := B.exec
  have hb := B.bytes
  have hr := B.returns
  have hts := atoms_spec (ws := wsX3_woven) B.pre
  have hown : s.vm.findClass RX3 = some m.cls := findClass_of_methodNamed B.named
  have hlocks := B.notSynchronized
  have hl := lv_entry ([.long (lN (a)), .long (lN (b)), .int (zI (n))]) (n := 8) (Nat.le_of_ble_eq_true rfl)
  rw [lg_entry_eq]
  generalize (lg_sl ([.long (lN (a)), .long (lN (b)), .int (zI (n))]) ++ List.replicate (8 - (lg_sl ([.long (lN (a)), .long (lN (b)), .int (zI (n))])).length) Slot.unset).toArray = ls at hl ⊢
  have hl : lv_has ls 8 [(0, .long (lN (a))), (2, .long (lN (b))), (4, .int (zI (n)))] := hl
  refine lv_lconst (v := lN 0) hx hb dX3_woven_0 rfl ?_
  refine n_re (e2 := wv a b 0) (rfl) ?_
  refine lv_lstore (lv' := [(5, .long (lN (wv a b 0))), (0, .long (lN (a))), (2, .long (lN (b))), (4, .int (zI (n)))]) hx hb dX3_woven_1 hl (by decide) rfl (fun ls hl => ?_)
  refine lv_iconst (v := zI 0) hx hb dX3_woven_3 rfl ?_
  refine z_re (e2 := ((0 : Nat) : Int)) (rfl) ?_
  refine lv_istore (lv' := [(7, .int (zI (((0 : Nat) : Int)))), (5, .long (lN (wv a b 0))), (0, .long (lN (a))), (2, .long (lN (b))), (4, .int (zI (n)))]) hx hb dX3_woven_4 hl (by decide) rfl (fun ls hl => ?_)
  have lp6 : ∀ (NN : Nat) (i : Nat) (q2 : i ≤ n), n - i < NN → ∀ (ls : Array Slot), lv_has ls 8 [(0, .long (lN (a))), (2, .long (lN (b))), (4, .int (zI (n))), (5, .long (lN (wv a b i))), (7, .int (zI (i)))] → W p l e (headSpec wsX3_woven ({ frames := 0, cells := 0, slots := 0, locals := 0 })).room s m ([.long (lN (a)), .long (lN (b)), .int (zI (n))] : List Value).toArray below meth c s.heap [] 0 0 (MQ below (vp_Sl (fun r => r = lN (wv a b n))) ([.long (lN (a)), .long (lN (b)), .int (zI (n))] : List Value).toArray s 0 0 (fun _ => False)) (F0 m 6 ls []) := by
    intro NN
    induction NN with
    | zero =>
      intro i q2 hmu
      exact absurd hmu (Nat.not_lt_zero _)
    | succ NN ih6 =>
      intro i q2 hmu ls hl
      refine lv_iload hx hb dX3_woven_6 (lv_at hl 4 rfl) ?_
      refine lv_iload hx hb dX3_woven_8 (lv_at hl 2 rfl) ?_
      refine z_icmp_ge (tgt := 49) hx hb dX3_woven_10 (by decide) (by omega) (by omega) (fun c10 => ?_) (fun c10 => ?_)
      · refine lv_lload hx hb dX3_woven_49 (lv_at hl 3 rfl) ?_
        exact W.lret (v := (lN (wv a b i))) hx hb hr (fun t ht hW => ⟨_, rfl, by rw [show i = n by omega], ht⟩) (fun q h => by cases h) dX3_woven_51
      · refine lv_lload hx hb dX3_woven_13 (lv_at hl 3 rfl) ?_
        refine lv_lload_n hx hb dX3_woven_15 rfl (lv_at hl 0 rfl) ?_
        refine lv_iload hx hb dX3_woven_16 (lv_at hl 4 rfl) ?_
        refine n_lushr hx hb (q := i) (by omega) (by omega) dX3_woven_18 ?_
        refine lv_lconst (v := lN 1) hx hb dX3_woven_19 rfl ?_
        refine n_land hx hb dX3_woven_20 ?_
        refine n_re (e2 := (a.testBit i).toNat) (tbN a i) ?_
        refine lv_iconst (v := zI 2) hx hb dX3_woven_21 rfl ?_
        refine lv_iload hx hb dX3_woven_22 (lv_at hl 4 rfl) ?_
        refine z_imul hx hb dX3_woven_24 ?_
        refine z_re (e2 := ((2 * i : Nat) : Int)) (by omega) ?_
        refine n_lshl hx hb (q := 2 * i) (by omega) dX3_woven_25 ?_
        refine lv_lload_n hx hb dX3_woven_26 rfl (lv_at hl 1 rfl) ?_
        refine lv_iload hx hb dX3_woven_27 (lv_at hl 4 rfl) ?_
        refine n_lushr hx hb (q := i) (by omega) (by omega) dX3_woven_29 ?_
        refine lv_lconst (v := lN 1) hx hb dX3_woven_30 rfl ?_
        refine n_land hx hb dX3_woven_31 ?_
        refine n_re (e2 := (b.testBit i).toNat) (tbN b i) ?_
        refine lv_iconst (v := zI 2) hx hb dX3_woven_32 rfl ?_
        refine lv_iload hx hb dX3_woven_33 (lv_at hl 4 rfl) ?_
        refine z_imul hx hb dX3_woven_35 ?_
        refine z_re (e2 := ((2 * i : Nat) : Int)) (by omega) ?_
        refine lv_iconst (v := zI 1) hx hb dX3_woven_36 rfl ?_
        refine z_iadd hx hb dX3_woven_37 ?_
        refine z_re (e2 := ((2 * i + 1 : Nat) : Int)) (by omega) ?_
        refine n_lshl hx hb (q := 2 * i + 1) (by omega) dX3_woven_38 ?_
        refine n_lor hx hb dX3_woven_39 ?_
        refine n_lor hx hb dX3_woven_40 ?_
        refine n_re (e2 := wv a b (i + 1)) (rfl) ?_
        refine lv_lstore (lv' := [(5, .long (lN (wv a b (i + 1)))), (0, .long (lN (a))), (2, .long (lN (b))), (4, .int (zI (n))), (7, .int (zI (i)))]) hx hb dX3_woven_41 hl (by decide) rfl (fun ls hl => ?_)
        refine lv_iinc (v := zI (((i + 1 : Nat) : Int))) (lv' := [(7, .int (zI (((i + 1 : Nat) : Int)))), (5, .long (lN (wv a b (i + 1)))), (0, .long (lN (a))), (2, .long (lN (b))), (4, .int (zI (n)))]) hx hb dX3_woven_43 hl (k := 4) rfl (zI_incr (by omega)) (by decide) rfl (fun ls hl => ?_)
        refine lv_goto (tgt := 6) hx hb dX3_woven_46 (by decide) ?_
        exact ih6 (i + 1) (by omega) (by omega) _ (lv_sub hl [2, 3, 4, 1, 0] rfl)
  exact lp6 _ (0) (by omega) (Nat.lt_succ_self _) _ (lv_sub hl [2, 3, 4, 1, 0] rfl)

-- product(a, la, b, lb)
set_option maxHeartbeats 4000000 in
set_option maxRecDepth 100000 in
theorem c_X3_product (l : Launch) (a la b lb : Nat) (gl : la * lb ≤ 32) (g1 : 1 ≤ lb) (ga : a < 4294967296) (gb : b < 2 ^ lb) (g2 : la ≤ 32) (g3 : lb ≤ 32) : Met l yX3_product wsX3_product ({ frames := 2, cells := 0, slots := 0, locals := 42 }) (va_Pc [.long (lN (a)), .int (zI (la)), .long (lN (b)), .int (zI (lb))] (fun _ => True)) (vp_Sl (fun r => r = lN (pd a b lb (la * lb)))) 0 0 (fun _ => False) := by
  refine Met.ofW (cc := cX3_product) (maxL := 11) (ret := (some .long)) (by decide) rfl ?_
  intro p e s m args below meth c s₁ B hml hv
  obtain ⟨rfl, -⟩ := hv
  have hx := B.exec
  have hb := B.bytes
  have hr := B.returns
  have hts := atoms_spec (ws := wsX3_product) B.pre
  have hown : s.vm.findClass RX3 = some m.cls := findClass_of_methodNamed B.named
  have hlocks := B.notSynchronized
  have hl := lv_entry ([.long (lN (a)), .int (zI (la)), .long (lN (b)), .int (zI (lb))]) (n := 11) (Nat.le_of_ble_eq_true rfl)
  rw [lg_entry_eq]
  generalize (lg_sl ([.long (lN (a)), .int (zI (la)), .long (lN (b)), .int (zI (lb))]) ++ List.replicate (11 - (lg_sl ([.long (lN (a)), .int (zI (la)), .long (lN (b)), .int (zI (lb))])).length) Slot.unset).toArray = ls at hl ⊢
  have hl : lv_has ls 11 [(0, .long (lN (a))), (2, .int (zI (la))), (3, .long (lN (b))), (5, .int (zI (lb)))] := hl
  refine lv_lconst (v := lN 0) hx hb dX3_product_0 rfl ?_
  refine n_re (e2 := pd a b lb (0 * lb)) (by rw [Nat.zero_mul]; rfl) ?_
  refine lv_lstore (lv' := [(6, .long (lN (pd a b lb (0 * lb)))), (0, .long (lN (a))), (2, .int (zI (la))), (3, .long (lN (b))), (5, .int (zI (lb)))]) hx hb dX3_product_1 hl (by decide) rfl (fun ls hl => ?_)
  refine lv_iconst (v := zI 0) hx hb dX3_product_3 rfl ?_
  refine z_re (e2 := ((0 : Nat) : Int)) (rfl) ?_
  refine lv_istore (lv' := [(8, .int (zI (((0 : Nat) : Int)))), (6, .long (lN (pd a b lb (0 * lb)))), (0, .long (lN (a))), (2, .int (zI (la))), (3, .long (lN (b))), (5, .int (zI (lb)))]) hx hb dX3_product_4 hl (by decide) rfl (fun ls hl => ?_)
  have lp6 : ∀ (NN : Nat) (i : Nat) (q2 : i ≤ la), la - i < NN → ∀ (ls : Array Slot), lv_has ls 11 [(0, .long (lN (a))), (2, .int (zI (la))), (3, .long (lN (b))), (5, .int (zI (lb))), (6, .long (lN (pd a b lb (i * lb)))), (8, .int (zI (i)))] → W p l e (headSpec wsX3_product ({ frames := 2, cells := 0, slots := 0, locals := 42 })).room s m ([.long (lN (a)), .int (zI (la)), .long (lN (b)), .int (zI (lb))] : List Value).toArray below meth c s.heap [] 0 0 (MQ below (vp_Sl (fun r => r = lN (pd a b lb (la * lb)))) ([.long (lN (a)), .int (zI (la)), .long (lN (b)), .int (zI (lb))] : List Value).toArray s 0 0 (fun _ => False)) (F0 m 6 ls []) := by
    intro NN
    induction NN with
    | zero =>
      intro i q2 hmu
      exact absurd hmu (Nat.not_lt_zero _)
    | succ NN ih6 =>
      intro i q2 hmu ls hl
      have b1 : i * lb ≤ la * lb := Nat.mul_le_mul_right lb q2
      have b2 := pm_or a i
      refine lv_iload hx hb dX3_product_6 (lv_at hl 5 rfl) ?_
      refine lv_iload_n hx hb dX3_product_8 rfl (lv_at hl 1 rfl) ?_
      refine z_icmp_ge (tgt := 53) hx hb dX3_product_9 (by decide) (by omega) (by omega) (fun c9 => ?_) (fun c9 => ?_)
      · refine lv_lload hx hb dX3_product_53 (lv_at hl 4 rfl) ?_
        exact W.lret (v := (lN (pd a b lb (i * lb)))) hx hb hr (fun t ht hW => ⟨_, rfl, by rw [show i = la by omega], ht⟩) (fun q h => by cases h) dX3_product_55
      · refine lv_lload_n hx hb dX3_product_12 rfl (lv_at hl 0 rfl) ?_
        refine lv_iload hx hb dX3_product_13 (lv_at hl 5 rfl) ?_
        refine vp_callSi (va_runS (As := [.long (lN (a)), .int (zI (i))]) (rest := []) ⟨hx, hb, hml, hown, hts⟩ (c_X3_sign l a i ga (by omega)) (va_cwS 2 hts gX3_product_X3_sign rfl rfl rfl (by decide +kernel) ⟨Nat.le_of_ble_eq_true rfl, Nat.le_of_ble_eq_true rfl⟩) ⟨fun a U g mk q => q, fun U hU hW => ⟨rfl, trivial⟩⟩ rfl rfl hl.1 rfl (lv_room (Nat.le_of_ble_eq_true rfl)) dX3_product_15 ⟨Nat.le_of_ble_eq_true rfl, Nat.le_of_ble_eq_true rfl⟩).run (fun r hr15 => ?_)
        obtain rfl := hr15
        refine lv_iconst (v := zI 1) hx hb dX3_product_18 rfl ?_
        refine z_icmp_ne (tgt := 26) hx hb dX3_product_19 (by decide) (by omega) (by omega) (fun c19 => ?_) (fun c19 => ?_)
        · refine lv_lload_n hx hb dX3_product_26 rfl (lv_at hl 2 rfl) ?_
          refine lv_iload hx hb dX3_product_27 (lv_at hl 3 rfl) ?_
          refine vp_callSl (va_runS (As := [.long (lN (b)), .int (zI (lb))]) (rest := []) ⟨hx, hb, hml, hown, hts⟩ (c_X3_opposite l b lb g3) (va_cwS 2 hts gX3_product_X3_opposite rfl rfl rfl (by decide +kernel) ⟨Nat.le_of_ble_eq_true rfl, Nat.le_of_ble_eq_true rfl⟩) ⟨fun a U g mk q => q, fun U hU hW => ⟨rfl, trivial⟩⟩ rfl rfl hl.1 rfl (lv_room (Nat.le_of_ble_eq_true rfl)) dX3_product_29 ⟨Nat.le_of_ble_eq_true rfl, Nat.le_of_ble_eq_true rfl⟩).run (fun r hr29 => ?_)
          obtain rfl := hr29
          refine n_re (e2 := if a.testBit i then b ^^^ (2 ^ lb - 1) else b) (by rw [pm_n c19]; rfl) ?_
          refine lv_lstore (lv' := [(9, .long (lN (if a.testBit i then b ^^^ (2 ^ lb - 1) else b))), (0, .long (lN (a))), (2, .int (zI (la))), (3, .long (lN (b))), (5, .int (zI (lb))), (6, .long (lN (pd a b lb (i * lb)))), (8, .int (zI (i)))]) hx hb dX3_product_32 hl (by decide) rfl (fun ls hl => ?_)
          refine lv_lload hx hb dX3_product_34 (lv_at hl 5 rfl) ?_
          refine lv_lload hx hb dX3_product_36 (lv_at hl 0 rfl) ?_
          refine lv_iload hx hb dX3_product_38 (lv_at hl 6 rfl) ?_
          refine lv_iload hx hb dX3_product_40 (lv_at hl 4 rfl) ?_
          refine z_imul hx hb dX3_product_42 ?_
          refine z_re (e2 := ((i * lb : Nat) : Int)) (by rw [Int.natCast_mul]) ?_
          refine n_lshl hx hb (q := i * lb) (by omega) dX3_product_43 ?_
          refine n_lor hx hb dX3_product_44 ?_
          refine n_re (e2 := pd a b lb ((i + 1) * lb)) (pd_s a i gb g1) ?_
          refine lv_lstore (lv' := [(6, .long (lN (pd a b lb ((i + 1) * lb)))), (9, .long (lN (if a.testBit i then b ^^^ (2 ^ lb - 1) else b))), (0, .long (lN (a))), (2, .int (zI (la))), (3, .long (lN (b))), (5, .int (zI (lb))), (8, .int (zI (i)))]) hx hb dX3_product_45 hl (by decide) rfl (fun ls hl => ?_)
          refine lv_iinc (v := zI (((i + 1 : Nat) : Int))) (lv' := [(8, .int (zI (((i + 1 : Nat) : Int)))), (6, .long (lN (pd a b lb ((i + 1) * lb)))), (9, .long (lN (if a.testBit i then b ^^^ (2 ^ lb - 1) else b))), (0, .long (lN (a))), (2, .int (zI (la))), (3, .long (lN (b))), (5, .int (zI (lb)))]) hx hb dX3_product_47 hl (k := 6) rfl (zI_incr (by omega)) (by decide) rfl (fun ls hl => ?_)
          refine lv_goto (tgt := 6) hx hb dX3_product_50 (by decide) ?_
          exact ih6 (i + 1) (by omega) (by omega) _ (lv_sub hl [3, 4, 5, 6, 1, 0] rfl)
        · refine lv_lload_n hx hb dX3_product_22 rfl (lv_at hl 2 rfl) ?_
          refine n_re (e2 := if a.testBit i then b ^^^ (2 ^ lb - 1) else b) (by rw [pm_p c19]; rfl) ?_
          refine lv_goto (tgt := 32) hx hb dX3_product_23 (by decide) ?_
          refine lv_lstore (lv' := [(9, .long (lN (if a.testBit i then b ^^^ (2 ^ lb - 1) else b))), (0, .long (lN (a))), (2, .int (zI (la))), (3, .long (lN (b))), (5, .int (zI (lb))), (6, .long (lN (pd a b lb (i * lb)))), (8, .int (zI (i)))]) hx hb dX3_product_32 hl (by decide) rfl (fun ls hl => ?_)
          refine lv_lload hx hb dX3_product_34 (lv_at hl 5 rfl) ?_
          refine lv_lload hx hb dX3_product_36 (lv_at hl 0 rfl) ?_
          refine lv_iload hx hb dX3_product_38 (lv_at hl 6 rfl) ?_
          refine lv_iload hx hb dX3_product_40 (lv_at hl 4 rfl) ?_
          refine z_imul hx hb dX3_product_42 ?_
          refine z_re (e2 := ((i * lb : Nat) : Int)) (by rw [Int.natCast_mul]) ?_
          refine n_lshl hx hb (q := i * lb) (by omega) dX3_product_43 ?_
          refine n_lor hx hb dX3_product_44 ?_
          refine n_re (e2 := pd a b lb ((i + 1) * lb)) (pd_s a i gb g1) ?_
          refine lv_lstore (lv' := [(6, .long (lN (pd a b lb ((i + 1) * lb)))), (9, .long (lN (if a.testBit i then b ^^^ (2 ^ lb - 1) else b))), (0, .long (lN (a))), (2, .int (zI (la))), (3, .long (lN (b))), (5, .int (zI (lb))), (8, .int (zI (i)))]) hx hb dX3_product_45 hl (by decide) rfl (fun ls hl => ?_)
          refine lv_iinc (v := zI (((i + 1 : Nat) : Int))) (lv' := [(8, .int (zI (((i + 1 : Nat) : Int)))), (6, .long (lN (pd a b lb ((i + 1) * lb)))), (9, .long (lN (if a.testBit i then b ^^^ (2 ^ lb - 1) else b))), (0, .long (lN (a))), (2, .int (zI (la))), (3, .long (lN (b))), (5, .int (zI (lb)))]) hx hb dX3_product_47 hl (k := 6) rfl (zI_incr (by omega)) (by decide) rfl (fun ls hl => ?_)
          refine lv_goto (tgt := 6) hx hb dX3_product_50 (by decide) ?_
          exact ih6 (i + 1) (by omega) (by omega) _ (lv_sub hl [3, 4, 5, 6, 1, 0] rfl)
  exact lp6 _ (0) (by omega) (Nat.lt_succ_self _) _ (lv_sub hl [2, 3, 4, 5, 1, 0] rfl)
end
