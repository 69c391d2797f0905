/-! Signs: the walks -/
theorem tbN (x i : Nat) : (x >>> i) &&& 1 = (x.testBit i).toNat := by
  rw [Nat.and_one_is_mod, Nat.shiftRight_eq_div_pow, Nat.testBit_eq_decide_div_mod_eq]
  rcases Nat.mod_two_eq_zero_or_one (x / 2 ^ i) with h | h <;> rw [h] <;> rfl
theorem lt32 {x n : Nat} (hx : x < 2 ^ n) (hn : n ≤ 32) : x < 4294967296 := Nat.lt_of_lt_of_le hx (Nat.pow_le_pow_right (n := 2) (j := 32) (by decide) hn)
theorem tbn_lt (b : Bool) : b.toNat < 9223372036854775808 := by cases b <;> decide
theorem pm_1 {x i : Nat} (h : ((x.testBit i).toNat : Int) = 0) : pm x i = 1 := by
  unfold pm
  cases hb : x.testBit i
  · rfl
  · rw [hb] at h; cases h
theorem pm_m {x i : Nat} (h : ¬ ((x.testBit i).toNat : Int) = 0) : pm x i = -1 := by
  unfold pm
  cases hb : x.testBit i
  · rw [hb] at h; exact absurd rfl h
  · rfl
-- mask(n)
set_option maxHeartbeats 4000000 in
set_option maxRecDepth 100000 in
theorem c_X3_mask (l : Launch) (n : Nat) (gn : n ≤ 32) : Met l yX3_mask wsX3_mask ({ frames := 0, cells := 0, slots := 0, locals := 0 }) (va_Pc [.int (zI (n))] (fun _ => True)) (vp_Sl (fun r => r = lN (2 ^ n - 1))) 0 0 (fun _ => False) := by
  refine Met.ofW (cc := cX3_mask) (maxL := 1) (ret := (some .long)) (by decide) rfl ?_
  intro p e s m args below meth c s₁ B hml hv
  obtain ⟨rfl, -⟩ := hv
  have hx := B.exec
  have hb := B.bytes
  have hr := B.returns
  have hts := atoms_spec (ws := wsX3_mask) B.pre
  have hown : s.vm.findClass RX3 = some m.cls := findClass_of_methodNamed B.named
  have hlocks := B.notSynchronized
  have hl := lv_entry ([.int (zI (n))]) (n := 1) (Nat.le_of_ble_eq_true rfl)
  rw [lg_entry_eq]
  generalize (lg_sl ([.int (zI (n))]) ++ List.replicate (1 - (lg_sl ([.int (zI (n))])).length) Slot.unset).toArray = ls at hl ⊢
  have hl : lv_has ls 1 [(0, .int (zI (n)))] := hl
  refine lv_lconst (v := lN 1) hx hb dX3_mask_0 rfl ?_
  refine lv_iload_n hx hb dX3_mask_1 rfl (lv_at hl 0 rfl) ?_
  refine n_lshl hx hb (q := n) (by omega) dX3_mask_2 ?_
  refine n_re (e2 := 2 ^ n) (Nat.one_shiftLeft n) ?_
  refine lv_lconst (v := lN 1) hx hb dX3_mask_3 rfl ?_
  refine n_lsub hx hb Nat.one_le_two_pow dX3_mask_4 ?_
  exact W.lret (v := (lN ((2 ^ n) - (1)))) hx hb hr (fun tq ht hW => ⟨_, rfl, rfl, ht⟩) (fun q h => by cases h) dX3_mask_5

-- sign(x, i)
set_option maxHeartbeats 4000000 in
set_option maxRecDepth 100000 in
theorem c_X3_sign (l : Launch) (x i : Nat) (gx : x < 4294967296) (gi : i < 64) : Met l yX3_sign wsX3_sign ({ frames := 0, cells := 0, slots := 0, locals := 0 }) (va_Pc [.long (lN (x)), .int (zI (i))] (fun _ => True)) (vp_Si (fun r => r = zI (pm x i))) 0 0 (fun _ => False) := by
  refine Met.ofW (cc := cX3_sign) (maxL := 3) (ret := (some .int)) (by decide) rfl ?_
  intro p e s m args below meth c s₁ B hml hv
  obtain ⟨rfl, -⟩ := hv
  have hx := B.exec
  have hb := B.bytes
  have hr := B.returns
  have hts := atoms_spec (ws := wsX3_sign) B.pre
  have hown : s.vm.findClass RX3 = some m.cls := findClass_of_methodNamed B.named
  have hlocks := B.notSynchronized
  have hl := lv_entry ([.long (lN (x)), .int (zI (i))]) (n := 3) (Nat.le_of_ble_eq_true rfl)
  rw [lg_entry_eq]
  generalize (lg_sl ([.long (lN (x)), .int (zI (i))]) ++ List.replicate (3 - (lg_sl ([.long (lN (x)), .int (zI (i))])).length) Slot.unset).toArray = ls at hl ⊢
  have hl : lv_has ls 3 [(0, .long (lN (x))), (2, .int (zI (i)))] := hl
  refine lv_lload_n hx hb dX3_sign_0 rfl (lv_at hl 0 rfl) ?_
  refine lv_iload_n hx hb dX3_sign_1 rfl (lv_at hl 1 rfl) ?_
  refine n_lushr hx hb (q := i) (by omega) (by omega) dX3_sign_2 ?_
  refine lv_lconst (v := lN 1) hx hb dX3_sign_3 rfl ?_
  refine n_land hx hb dX3_sign_4 ?_
  refine n_re (e2 := (x.testBit i).toNat) (tbN x i) ?_
  refine lv_lconst (v := lN 0) hx hb dX3_sign_5 rfl ?_
  refine z_lcmp_ne (a := (((x.testBit i).toNat : Nat) : Int)) (b := ((0 : Nat) : Int)) (tgt := 14) hx hb dX3_sign_6 dX3_sign_7 (by decide) (lN_toI (tbn_lt _)) (lN_toI (by omega)) (fun c6 => ?_) (fun c6 => ?_)
  · refine lv_iconst (v := zI (-1)) hx hb dX3_sign_14 rfl ?_
    exact W.iret (v := (zI ((-1)))) hx hb hr (fun tq ht hW => ⟨_, rfl, by rw [pm_m c6], ht⟩) (fun q h => by cases h) dX3_sign_15
  · refine lv_iconst (v := zI 1) hx hb dX3_sign_10 rfl ?_
    refine lv_goto (tgt := 15) hx hb dX3_sign_11 (by decide) ?_
    exact W.iret (v := (zI (1))) hx hb hr (fun tq ht hW => ⟨_, rfl, by rw [pm_1 c6], ht⟩) (fun q h => by cases h) dX3_sign_15

-- Long.bitCount
set_option maxHeartbeats 4000000 in
set_option maxRecDepth 100000 in
theorem c_J13_bitCount_95d88 (l : Launch) (x : Nat) (gx : x < 4294967296) : Met l yJ13_bitCount_95d88 wsJ13_bitCount_95d88 ({ frames := 0, cells := 0, slots := 0, locals := 0 }) (va_Pc [.long (lN (x))] (fun _ => True)) (vp_Si (fun r => r = zI (pc x 32 : Int))) 0 0 (fun _ => False) := by
  refine Met.ofW (cc := cJ13_bitCount_95d88) (maxL := 2) (ret := (some .int)) (by decide) rfl ?_
  intro p e s m args below meth c s₁ B hml hv
  obtain ⟨rfl, -⟩ := hv
  have hx := B.exec
  have hb := B.bytes
  have hr := B.returns
  have hts := atoms_spec (ws := wsJ13_bitCount_95d88) B.pre
  have hown : s.vm.findClass RJ13 = some m.cls := findClass_of_methodNamed B.named
  have hlocks := B.notSynchronized
  have hl := lv_entry ([.long (lN (x))]) (n := 2) (Nat.le_of_ble_eq_true rfl)
  rw [lg_entry_eq]
  generalize (lg_sl ([.long (lN (x))]) ++ List.replicate (2 - (lg_sl ([.long (lN (x))])).length) Slot.unset).toArray = ls at hl ⊢
  have hl : lv_has ls 2 [(0, .long (lN (x)))] := hl
  have k1 := tG1_le 6148914691236517205 x
  have k2 := tG2_le 3689348814741910323 (tG1 6148914691236517205 x)
  have k3 : tV3 x ≤ 4 * x := by unfold tV3 tG3; have q := shr_le (tG2 3689348814741910323 (tG1 6148914691236517205 x)) 4; exact Nat.le_trans Nat.and_le_left (by omega)
  have k4 := shr_le (tV3 x) 8
  have k5 := shr_le (tV3 x + tV3 x >>> 8) 16
  refine lv_lload_n hx hb dJ13_bitCount_95d88_0 rfl (lv_at hl 0 rfl) ?_
  refine lv_lload_n hx hb dJ13_bitCount_95d88_1 rfl (lv_at hl 0 rfl) ?_
  refine lv_iconst (v := zI 1) hx hb dJ13_bitCount_95d88_2 rfl ?_
  refine n_lushr hx hb (q := 1) (by omega) (by omega) dJ13_bitCount_95d88_3 ?_
  refine lv_ldc2 (v := lN 6148914691236517205) hx hb hown (hts (.constantLong RJ13 314 (lN 6148914691236517205)) (by decide +kernel)) dJ13_bitCount_95d88_4 ?_
  refine n_land hx hb dJ13_bitCount_95d88_7 ?_
  refine n_re (e2 := (x >>> 1) &&& 6148914691236517205) (rfl) ?_
  refine n_lsub hx hb (Nat.le_trans Nat.and_le_left (shr_le x 1)) dJ13_bitCount_95d88_8 ?_
  refine n_re (e2 := tG1 6148914691236517205 x) (rfl) ?_
  refine lv_lstore_n (lv' := [(0, .long (lN (tG1 6148914691236517205 x)))]) hx hb dJ13_bitCount_95d88_9 rfl hl (by decide) rfl (fun ls hl => ?_)
  refine lv_lload_n hx hb dJ13_bitCount_95d88_10 rfl (lv_at hl 0 rfl) ?_
  refine lv_ldc2 (v := lN 3689348814741910323) hx hb hown (hts (.constantLong RJ13 316 (lN 3689348814741910323)) (by decide +kernel)) dJ13_bitCount_95d88_11 ?_
  refine n_land hx hb dJ13_bitCount_95d88_14 ?_
  refine lv_lload_n hx hb dJ13_bitCount_95d88_15 rfl (lv_at hl 0 rfl) ?_
  refine lv_iconst (v := zI 2) hx hb dJ13_bitCount_95d88_16 rfl ?_
  refine n_lushr hx hb (q := 2) (by omega) (by omega) dJ13_bitCount_95d88_17 ?_
  refine lv_ldc2 (v := lN 3689348814741910323) hx hb hown (hts (.constantLong RJ13 316 (lN 3689348814741910323)) (by decide +kernel)) dJ13_bitCount_95d88_18 ?_
  refine n_land hx hb dJ13_bitCount_95d88_21 ?_
  refine n_ladd hx hb dJ13_bitCount_95d88_22 ?_
  refine n_re (e2 := tG2 3689348814741910323 (tG1 6148914691236517205 x)) (rfl) ?_
  refine lv_lstore_n (lv' := [(0, .long (lN (tG2 3689348814741910323 (tG1 6148914691236517205 x))))]) hx hb dJ13_bitCount_95d88_23 rfl hl (by decide) rfl (fun ls hl => ?_)
  refine lv_lload_n hx hb dJ13_bitCount_95d88_24 rfl (lv_at hl 0 rfl) ?_
  refine lv_lload_n hx hb dJ13_bitCount_95d88_25 rfl (lv_at hl 0 rfl) ?_
  refine lv_iconst (v := zI 4) hx hb dJ13_bitCount_95d88_26 rfl ?_
  refine n_lushr hx hb (q := 4) (by omega) (by omega) dJ13_bitCount_95d88_27 ?_
  refine n_ladd hx hb dJ13_bitCount_95d88_28 ?_
  refine lv_ldc2 (v := lN 1085102592571150095) hx hb hown (hts (.constantLong RJ13 318 (lN 1085102592571150095)) (by decide +kernel)) dJ13_bitCount_95d88_29 ?_
  refine n_land hx hb dJ13_bitCount_95d88_32 ?_
  refine n_re (e2 := tV3 x) (rfl) ?_
  refine lv_lstore_n (lv' := [(0, .long (lN (tV3 x)))]) hx hb dJ13_bitCount_95d88_33 rfl hl (by decide) rfl (fun ls hl => ?_)
  refine lv_lload_n hx hb dJ13_bitCount_95d88_34 rfl (lv_at hl 0 rfl) ?_
  refine lv_lload_n hx hb dJ13_bitCount_95d88_35 rfl (lv_at hl 0 rfl) ?_
  refine lv_bipush (v := zI 8) hx hb dJ13_bitCount_95d88_36 (by decide +kernel) ?_
  refine n_lushr hx hb (q := 8) (by omega) (by omega) dJ13_bitCount_95d88_38 ?_
  refine n_ladd hx hb dJ13_bitCount_95d88_39 ?_
  refine n_re (e2 := tV3 x + tV3 x >>> 8) (rfl) ?_
  refine lv_lstore_n (lv' := [(0, .long (lN (tV3 x + tV3 x >>> 8)))]) hx hb dJ13_bitCount_95d88_40 rfl hl (by decide) rfl (fun ls hl => ?_)
  refine lv_lload_n hx hb dJ13_bitCount_95d88_41 rfl (lv_at hl 0 rfl) ?_
  refine lv_lload_n hx hb dJ13_bitCount_95d88_42 rfl (lv_at hl 0 rfl) ?_
  refine lv_bipush (v := zI 16) hx hb dJ13_bitCount_95d88_43 (by decide +kernel) ?_
  refine n_lushr hx hb (q := 16) (by omega) (by omega) dJ13_bitCount_95d88_45 ?_
  refine n_ladd hx hb dJ13_bitCount_95d88_46 ?_
  refine lv_lstore_n (lv' := [(0, .long (lN ((tV3 x + tV3 x >>> 8) + ((tV3 x + tV3 x >>> 8) >>> (16)))))]) hx hb dJ13_bitCount_95d88_47 rfl hl (by decide) rfl (fun ls hl => ?_)
  refine lv_lload_n hx hb dJ13_bitCount_95d88_48 rfl (lv_at hl 0 rfl) ?_
  refine lv_lload_n hx hb dJ13_bitCount_95d88_49 rfl (lv_at hl 0 rfl) ?_
  refine lv_bipush (v := zI 32) hx hb dJ13_bitCount_95d88_50 (by decide +kernel) ?_
  refine n_lushr hx hb (q := 32) (by omega) (by omega) dJ13_bitCount_95d88_52 ?_
  refine n_ladd hx hb dJ13_bitCount_95d88_53 ?_
  refine lv_lstore_n (lv' := [(0, .long (lN (((tV3 x + tV3 x >>> 8) + ((tV3 x + tV3 x >>> 8) >>> (16))) + (((tV3 x + tV3 x >>> 8) + ((tV3 x + tV3 x >>> 8) >>> (16))) >>> (32)))))]) hx hb dJ13_bitCount_95d88_54 rfl hl (by decide) rfl (fun ls hl => ?_)
  refine lv_lload_n hx hb dJ13_bitCount_95d88_55 rfl (lv_at hl 0 rfl) ?_
  refine n_l2i hx hb dJ13_bitCount_95d88_56 ?_
  refine lv_bipush (v := zI 127) hx hb dJ13_bitCount_95d88_57 (by decide +kernel) ?_
  refine n_iand hx hb (a := ((tV3 x + tV3 x >>> 8) + ((tV3 x + tV3 x >>> 8) >>> (16))) + (((tV3 x + tV3 x >>> 8) + ((tV3 x + tV3 x >>> 8) >>> (16))) >>> (32))) (b := 127) dJ13_bitCount_95d88_59 ?_
  refine z_re (e2 := ((pc x 32 : Nat) : Int)) (by rw [tV_end gx]) ?_
  exact W.iret (v := (zI (((pc x 32 : Nat) : Int)))) hx hb hr (fun tq ht hW => ⟨_, rfl, rfl, ht⟩) (fun q h => by cases h) dJ13_bitCount_95d88_60

-- openSum(x, n, k)
set_option maxHeartbeats 4000000 in
set_option maxRecDepth 100000 in
theorem c_X3_openSum (l : Launch) (x n k : Nat) (gn : n ≤ 32) (gk : k ≤ n) (gx : x < 2 ^ n) : Met l yX3_openSum wsX3_openSum ({ frames := 1, cells := 0, slots := 0, locals := 21 }) (va_Pc [.long (lN (x)), .int (zI (n)), .int (zI (k))] (fun _ => True)) (vp_Si (fun r => r = zI (oS n x k))) 0 0 (fun _ => False) := by
  refine Met.ofW (cc := cX3_openSum) (maxL := 5) (ret := (some .int)) (by decide) rfl ?_
  intro p e s m args below meth c s₁ B hml hv
  obtain ⟨rfl, -⟩ := hv
  have hx := B.exec
  have hb := B.bytes
  have hr := B.returns
  have hts := atoms_spec (ws := wsX3_openSum) B.pre
  have hown : s.vm.findClass RX3 = some m.cls := findClass_of_methodNamed B.named
  have hlocks := B.notSynchronized
  have hl := lv_entry ([.long (lN (x)), .int (zI (n)), .int (zI (k))]) (n := 5) (Nat.le_of_ble_eq_true rfl)
  rw [lg_entry_eq]
  generalize (lg_sl ([.long (lN (x)), .int (zI (n)), .int (zI (k))]) ++ List.replicate (5 - (lg_sl ([.long (lN (x)), .int (zI (n)), .int (zI (k))])).length) Slot.unset).toArray = ls at hl ⊢
  have hl : lv_has ls 5 [(0, .long (lN (x))), (2, .int (zI (n))), (3, .int (zI (k)))] := hl
  have hx2 : x < 4294967296 := lt32 gx gn
  have hy : (x ^^^ (x >>> k)) &&& (2 ^ (n - k) - 1) < 4294967296 := by
    have h1 := shr_le x k
    exact Nat.lt_of_le_of_lt Nat.and_le_left (Nat.xor_lt_two_pow (n := 32) hx2 (by omega))
  refine lv_iload_n hx hb dX3_openSum_0 rfl (lv_at hl 1 rfl) ?_
  refine lv_iload_n hx hb dX3_openSum_1 rfl (lv_at hl 2 rfl) ?_
  refine z_isub hx hb dX3_openSum_2 ?_
  refine z_re (e2 := ((n - k : Nat) : Int)) (by omega) ?_
  refine lv_istore (lv' := [(4, .int (zI (((n - k : Nat) : Int)))), (0, .long (lN (x))), (2, .int (zI (n))), (3, .int (zI (k)))]) hx hb dX3_openSum_3 hl (by decide) rfl (fun ls hl => ?_)
  refine lv_iload hx hb dX3_openSum_5 (lv_at hl 0 rfl) ?_
  refine lv_iconst (v := zI 2) hx hb dX3_openSum_7 rfl ?_
  refine lv_lload_n hx hb dX3_openSum_8 rfl (lv_at hl 1 rfl) ?_
  refine lv_lload_n hx hb dX3_openSum_9 rfl (lv_at hl 1 rfl) ?_
  refine lv_iload_n hx hb dX3_openSum_10 rfl (lv_at hl 3 rfl) ?_
  refine n_lushr hx hb (q := k) (by omega) (by omega) dX3_openSum_11 ?_
  refine n_lxor hx hb dX3_openSum_12 ?_
  refine lv_iload hx hb dX3_openSum_13 (lv_at hl 0 rfl) ?_
  refine vp_callSl (va_runS (As := [.int (zI (((n - k : Nat) : Int)))]) (rest := [.long (lN ((x) ^^^ ((x) >>> (k)))), .int (zI (2)), .int (zI (((n - k : Nat) : Int)))]) ⟨hx, hb, hml, hown, hts⟩ (c_X3_mask l (n - k) (by omega)) (va_cwS 1 hts gX3_openSum_X3_mask rfl rfl rfl (by decide +kernel) ⟨Nat.le_of_ble_eq_true rfl, Nat.le_of_ble_eq_true rfl⟩) ⟨fun a U g mk q => q, fun U hU hW => ⟨rfl, trivial⟩⟩ rfl rfl hl.1 rfl (lv_room (Nat.le_of_ble_eq_true rfl)) dX3_openSum_15 ⟨Nat.le_of_ble_eq_true rfl, Nat.le_of_ble_eq_true rfl⟩).run (fun r hr15 => ?_)
  obtain rfl := hr15
  refine n_land hx hb dX3_openSum_18 ?_
  refine vp_callSi (va_runS (As := [.long (lN (((x) ^^^ ((x) >>> (k))) &&& (2 ^ (n - k) - 1)))]) (rest := [.int (zI (2)), .int (zI (((n - k : Nat) : Int)))]) ⟨hx, hb, hml, hown, hts⟩ (c_J13_bitCount_95d88 l ((x ^^^ (x >>> k)) &&& (2 ^ (n - k) - 1)) hy) (va_cwS 1 hts gX3_openSum_J13_bitCount_95d88 rfl rfl rfl (by decide +kernel) ⟨Nat.le_of_ble_eq_true rfl, Nat.le_of_ble_eq_true rfl⟩) ⟨fun a U g mk q => q, fun U hU hW => ⟨rfl, trivial⟩⟩ rfl rfl hl.1 rfl (lv_room (Nat.le_of_ble_eq_true rfl)) dX3_openSum_19 ⟨Nat.le_of_ble_eq_true rfl, Nat.le_of_ble_eq_true rfl⟩).run (fun r hr19 => ?_)
  obtain rfl := hr19
  refine z_imul hx hb dX3_openSum_22 ?_
  refine z_isub hx hb dX3_openSum_23 ?_
  refine z_re (e2 := oS n x k) (by rw [oS_pc gn]) ?_
  exact W.iret (v := (zI (oS n x k))) hx hb hr (fun tq ht hW => ⟨_, rfl, rfl, ht⟩) (fun q h => by cases h) dX3_openSum_24

-- roundSum(x, n, k)
set_option maxHeartbeats 4000000 in
set_option maxRecDepth 100000 in
theorem c_X3_roundSum (l : Launch) (x n k : Nat) (gn : n ≤ 32) (gk : k < n) (gx : x < 2 ^ n) : Met l yX3_roundSum wsX3_roundSum ({ frames := 1, cells := 0, slots := 0, locals := 21 }) (va_Pc [.long (lN (x)), .int (zI (n)), .int (zI (k))] (fun _ => True)) (vp_Si (fun r => r = zI (rS n x k))) 0 0 (fun _ => False) := by
  refine Met.ofW (cc := cX3_roundSum) (maxL := 6) (ret := (some .int)) (by decide) rfl ?_
  intro p e s m args below meth c s₁ B hml hv
  obtain ⟨rfl, -⟩ := hv
  have hx := B.exec
  have hb := B.bytes
  have hr := B.returns
  have hts := atoms_spec (ws := wsX3_roundSum) B.pre
  have hown : s.vm.findClass RX3 = some m.cls := findClass_of_methodNamed B.named
  have hlocks := B.notSynchronized
  have hl := lv_entry ([.long (lN (x)), .int (zI (n)), .int (zI (k))]) (n := 6) (Nat.le_of_ble_eq_true rfl)
  rw [lg_entry_eq]
  generalize (lg_sl ([.long (lN (x)), .int (zI (n)), .int (zI (k))]) ++ List.replicate (6 - (lg_sl ([.long (lN (x)), .int (zI (n)), .int (zI (k))])).length) Slot.unset).toArray = ls at hl ⊢
  have hl : lv_has ls 6 [(0, .long (lN (x))), (2, .int (zI (n))), (3, .int (zI (k)))] := hl
  have hx2 : x < 4294967296 := lt32 gx gn
  have hy : x ^^^ (((x >>> k) ||| (x <<< (n - k))) &&& (2 ^ n - 1)) < 4294967296 := by
    have h1 : 2 ^ n ≤ 2 ^ 32 := Nat.pow_le_pow_right (by decide) gn
    have h2 : 0 < 2 ^ n := Nat.two_pow_pos n
    exact Nat.xor_lt_two_pow (n := 32) hx2 (Nat.lt_of_le_of_lt Nat.and_le_right (by omega))
  refine lv_lload_n hx hb dX3_roundSum_0 rfl (lv_at hl 0 rfl) ?_
  refine lv_iload_n hx hb dX3_roundSum_1 rfl (lv_at hl 2 rfl) ?_
  refine n_lushr hx hb (q := k) (by omega) (by omega) dX3_roundSum_2 ?_
  refine lv_lload_n hx hb dX3_roundSum_3 rfl (lv_at hl 0 rfl) ?_
  refine lv_iload_n hx hb dX3_roundSum_4 rfl (lv_at hl 1 rfl) ?_
  refine lv_iload_n hx hb dX3_roundSum_5 rfl (lv_at hl 2 rfl) ?_
  refine z_isub hx hb dX3_roundSum_6 ?_
  refine z_re (e2 := ((n - k : Nat) : Int)) (by omega) ?_
  refine n_lshl hx hb (q := n - k) (by omega) dX3_roundSum_7 ?_
  refine n_lor hx hb dX3_roundSum_8 ?_
  refine lv_iload_n hx hb dX3_roundSum_9 rfl (lv_at hl 1 rfl) ?_
  refine vp_callSl (va_runS (As := [.int (zI (n))]) (rest := [.long (lN (((x) >>> (k)) ||| ((x) <<< (n - k))))]) ⟨hx, hb, hml, hown, hts⟩ (c_X3_mask l n gn) (va_cwS 1 hts gX3_roundSum_X3_mask rfl rfl rfl (by decide +kernel) ⟨Nat.le_of_ble_eq_true rfl, Nat.le_of_ble_eq_true rfl⟩) ⟨fun a U g mk q => q, fun U hU hW => ⟨rfl, trivial⟩⟩ rfl rfl hl.1 rfl (lv_room (Nat.le_of_ble_eq_true rfl)) dX3_roundSum_10 ⟨Nat.le_of_ble_eq_true rfl, Nat.le_of_ble_eq_true rfl⟩).run (fun r hr10 => ?_)
  obtain rfl := hr10
  refine n_land hx hb dX3_roundSum_13 ?_
  refine lv_lstore (lv' := [(4, .long (lN ((((x) >>> (k)) ||| ((x) <<< (n - k))) &&& (2 ^ (n) - 1)))), (0, .long (lN (x))), (2, .int (zI (n))), (3, .int (zI (k)))]) hx hb dX3_roundSum_14 hl (by decide) rfl (fun ls hl => ?_)
  refine lv_iload_n hx hb dX3_roundSum_16 rfl (lv_at hl 2 rfl) ?_
  refine lv_iconst (v := zI 2) hx hb dX3_roundSum_17 rfl ?_
  refine lv_lload_n hx hb dX3_roundSum_18 rfl (lv_at hl 1 rfl) ?_
  refine lv_lload hx hb dX3_roundSum_19 (lv_at hl 0 rfl) ?_
  refine n_lxor hx hb dX3_roundSum_21 ?_
  refine vp_callSi (va_runS (As := [.long (lN ((x) ^^^ ((((x) >>> (k)) ||| ((x) <<< (n - k))) &&& (2 ^ (n) - 1))))]) (rest := [.int (zI (2)), .int (zI (n))]) ⟨hx, hb, hml, hown, hts⟩ (c_J13_bitCount_95d88 l (x ^^^ (((x >>> k) ||| (x <<< (n - k))) &&& (2 ^ n - 1))) hy) (va_cwS 1 hts gX3_roundSum_J13_bitCount_95d88 rfl rfl rfl (by decide +kernel) ⟨Nat.le_of_ble_eq_true rfl, Nat.le_of_ble_eq_true rfl⟩) ⟨fun a U g mk q => q, fun U hU hW => ⟨rfl, trivial⟩⟩ rfl rfl hl.1 rfl (lv_room (Nat.le_of_ble_eq_true rfl)) dX3_roundSum_22 ⟨Nat.le_of_ble_eq_true rfl, Nat.le_of_ble_eq_true rfl⟩).run (fun r hr22 => ?_)
  obtain rfl := hr22
  refine z_imul hx hb dX3_roundSum_25 ?_
  refine z_isub hx hb dX3_roundSum_26 ?_
  refine z_re (e2 := rS n x k) (by rw [rS_pc gn gx gk]) ?_
  exact W.iret (v := (zI (rS n x k))) hx hb hr (fun tq ht hW => ⟨_, rfl, rfl, ht⟩) (fun q h => by cases h) dX3_roundSum_27
