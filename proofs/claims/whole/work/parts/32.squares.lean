/-! Squares, and the check's sums of squares: the walks -/
theorem sn_0 (f : Nat → Nat) {b : Nat} (h : b = 0) : sn f b = 0 := by subst h; rfl
theorem pw_z {j : Nat} (h : 2 ^ j / 2 ≤ 0) : j = 0 := by
  rcases Nat.eq_zero_or_pos j with q | q
  · exact q
  · have e := pw_s q
    have p := Nat.two_pow_pos (j - 1)
    omega
theorem pw_p {j : Nat} (h : 0 < 2 ^ j / 2) : 1 ≤ j := by
  rcases Nat.eq_zero_or_pos j with q | q
  · rw [q] at h; exact absurd h (by decide)
  · exact q
theorem w1_t {l a : Nat} (h : l = min (sqN l) a * min (sqN l) a) : wy 0 l a = 1 := by show w1 l a = 1; rw [w1, if_pos (w1_iff.mp h)]
theorem w1_f {l a : Nat} (h : ¬ l = min (sqN l) a * min (sqN l) a) : wy 0 l a = 0 := by show w1 l a = 0; rw [w1, if_neg (fun z => h (w1_iff.mpr z))]
theorem w1_y {l a : Nat} (h : sqN l ≤ a ∧ sqN l * sqN l = l) : wy 0 l a = 1 := by show w1 l a = 1; rw [w1, if_pos h]
theorem w1_n {l a : Nat} (h : ¬ (sqN l ≤ a ∧ sqN l * sqN l = l)) : wy 0 l a = 0 := by show w1 l a = 0; rw [w1, if_neg h]
-- X4_rootOf
set_option maxHeartbeats 4000000 in
set_option maxRecDepth 100000 in
theorem c_X4_rootOf (l : Launch) (n : Nat) (gn : n ≤ 1000000) : Met l yX4_rootOf wsX4_rootOf ({ frames := 0, cells := 0, slots := 0, locals := 0 }) (va_Pc [.int (zI (n))] (fun _ => True)) (vp_Si (fun r => r = zI (sqN n : Int))) 0 0 (fun _ => False) := by
  refine Met.ofW (cc := cX4_rootOf) (maxL := 3) (ret := (some .int)) (by decide) rfl ?_
  intro p e s m args below meth c s₁ B hml hv
  obtain ⟨rfl, -⟩ := hv
  have hx := B.exec
  have hb := B.bytes
  have hr := B.returns
  have hts := atoms_spec (ws := wsX4_rootOf) B.pre
  have hown : s.vm.findClass RX4 = some m.cls := findClass_of_methodNamed B.named
  have hlocks := B.notSynchronized
  have hl := lv_entry ([.int (zI (n))]) (n := 3) (Nat.le_of_ble_eq_true rfl)
  rw [lg_entry_eq]
  generalize (lg_sl ([.int (zI (n))]) ++ List.replicate (3 - (lg_sl ([.int (zI (n))])).length) Slot.unset).toArray = ls at hl ⊢
  have hl : lv_has ls 3 [(0, .int (zI (n)))] := hl
  refine lv_iconst (v := zI 0) hx hb dX4_rootOf_0 rfl ?_
  refine z_re (e2 := ((0 : Nat) : Int)) (rfl) ?_
  refine lv_istore_n (lv' := [(1, .int (zI (((0 : Nat) : Int)))), (0, .int (zI (n)))]) hx hb dX4_rootOf_1 rfl hl (by decide) rfl (fun ls hl => ?_)
  refine lv_sipush (v := zI 512) hx hb dX4_rootOf_2 (by decide +kernel) ?_
  refine z_re (e2 := ((2 ^ 10 / 2 : Nat) : Int)) (by decide) ?_
  refine lv_istore_n (lv' := [(2, .int (zI (((2 ^ 10 / 2 : Nat) : Int)))), (1, .int (zI (((0 : Nat) : Int)))), (0, .int (zI (n)))]) hx hb dX4_rootOf_5 rfl hl (by decide) rfl (fun ls hl => ?_)
  have lp6 : ∀ (NN : Nat) (r : Nat) (j : Nat) (q1 : j ≤ 10) (q2 : r * r ≤ n) (q3 : n < (r + 2 ^ j) * (r + 2 ^ j)), j < NN → ∀ (ls : Array Slot), lv_has ls 3 [(0, .int (zI (n))), (1, .int (zI (r))), (2, .int (zI (((2 ^ j / 2 : Nat) : Int))))] → W p l e (headSpec wsX4_rootOf ({ frames := 0, cells := 0, slots := 0, locals := 0 })).room s m ([.int (zI (n))] : List Value).toArray below meth c s.heap [] 0 0 (MQ below (vp_Si (fun r => r = zI (sqN n : Int))) ([.int (zI (n))] : List Value).toArray s 0 0 (fun _ => False)) (F0 m 6 ls []) := by
    intro NN
    induction NN with
    | zero =>
      intro r j q1 q2 q3 hmu
      exact absurd hmu (Nat.not_lt_zero _)
    | succ NN ih6 =>
      intro r j q1 q2 q3 hmu ls hl
      have b0 := root_le q2 gn
      have p0 := Nat.two_pow_pos j
      have b1 := pw_bd (show j ≤ 11 by omega)
      have b2 : (r + 2 ^ j / 2) * (r + 2 ^ j / 2) ≤ 2048 * 2048 := Nat.mul_le_mul (by omega) (by omega)
      refine lv_iload_n hx hb dX4_rootOf_6 rfl (lv_at hl 2 rfl) ?_
      refine z_if_le (tgt := 32) hx hb dX4_rootOf_7 (by decide) (by omega) (fun c7 => ?_) (fun c7 => ?_)
      · have hj : j = 0 := pw_z (by omega)
        refine lv_iload_n hx hb dX4_rootOf_32 rfl (lv_at hl 1 rfl) ?_
        exact W.iret (v := (zI (r))) hx hb hr (fun tq ht hW => ⟨_, rfl, by rw [sqN_uniq q2 (by rw [hj] at q3; exact q3)], ht⟩) (fun q h => by cases h) dX4_rootOf_33
      · have hj : 1 ≤ j := pw_p (by omega)
        have e1 := pw_s hj
        have e2 : 2 ^ j / 2 = 2 ^ (j - 1) := by omega
        refine lv_iload_n hx hb dX4_rootOf_10 rfl (lv_at hl 1 rfl) ?_
        refine lv_iload_n hx hb dX4_rootOf_11 rfl (lv_at hl 2 rfl) ?_
        refine z_iadd hx hb dX4_rootOf_12 ?_
        refine z_re (e2 := ((r + 2 ^ j / 2 : Nat) : Int)) (by omega) ?_
        refine lv_iload_n hx hb dX4_rootOf_13 rfl (lv_at hl 1 rfl) ?_
        refine lv_iload_n hx hb dX4_rootOf_14 rfl (lv_at hl 2 rfl) ?_
        refine z_iadd hx hb dX4_rootOf_15 ?_
        refine z_re (e2 := ((r + 2 ^ j / 2 : Nat) : Int)) (by omega) ?_
        refine z_imul hx hb dX4_rootOf_16 ?_
        refine z_re (e2 := (((r + 2 ^ j / 2) * (r + 2 ^ j / 2) : Nat) : Int)) (by rw [Int.natCast_mul]) ?_
        refine lv_iload_n hx hb dX4_rootOf_17 rfl (lv_at hl 0 rfl) ?_
        refine z_icmp_gt (tgt := 25) hx hb dX4_rootOf_18 (by decide) (by omega) (by omega) (fun c18 => ?_) (fun c18 => ?_)
        · refine lv_iload_n hx hb dX4_rootOf_25 rfl (lv_at hl 2 rfl) ?_
          refine lv_iconst (v := zI 2) hx hb dX4_rootOf_26 rfl ?_
          refine z_idiv hx hb (by omega) (by omega) dX4_rootOf_27 ?_
          refine z_re (e2 := ((2 ^ (j - 1) / 2 : Nat) : Int)) (by omega) ?_
          refine lv_istore_n (lv' := [(2, .int (zI (((2 ^ (j - 1) / 2 : Nat) : Int)))), (0, .int (zI (n))), (1, .int (zI (r)))]) hx hb dX4_rootOf_28 rfl hl (by decide) rfl (fun ls hl => ?_)
          refine lv_goto (tgt := 6) hx hb dX4_rootOf_29 (by decide) ?_
          exact ih6 (r) (j - 1) (by omega) (q2) (by rw [← e2]; exact Int.ofNat_lt.mp c18) (by omega) _ (lv_sub hl [1, 2, 0] rfl)
        · refine lv_iload_n hx hb dX4_rootOf_21 rfl (lv_at hl 1 rfl) ?_
          refine lv_iload_n hx hb dX4_rootOf_22 rfl (lv_at hl 2 rfl) ?_
          refine z_iadd hx hb dX4_rootOf_23 ?_
          refine z_re (e2 := ((r + 2 ^ j / 2 : Nat) : Int)) (by omega) ?_
          refine lv_istore_n (lv' := [(1, .int (zI (((r + 2 ^ j / 2 : Nat) : Int)))), (0, .int (zI (n))), (2, .int (zI (((2 ^ j / 2 : Nat) : Int))))]) hx hb dX4_rootOf_24 rfl hl (by decide) rfl (fun ls hl => ?_)
          refine lv_iload_n hx hb dX4_rootOf_25 rfl (lv_at hl 2 rfl) ?_
          refine lv_iconst (v := zI 2) hx hb dX4_rootOf_26 rfl ?_
          refine z_idiv hx hb (by omega) (by omega) dX4_rootOf_27 ?_
          refine z_re (e2 := ((2 ^ (j - 1) / 2 : Nat) : Int)) (by omega) ?_
          refine lv_istore_n (lv' := [(2, .int (zI (((2 ^ (j - 1) / 2 : Nat) : Int)))), (1, .int (zI (((r + 2 ^ j / 2 : Nat) : Int)))), (0, .int (zI (n)))]) hx hb dX4_rootOf_28 rfl hl (by decide) rfl (fun ls hl => ?_)
          refine lv_goto (tgt := 6) hx hb dX4_rootOf_29 (by decide) ?_
          exact ih6 (r + 2 ^ j / 2) (j - 1) (by omega) (Int.ofNat_le.mp c18) (by rw [show r + 2 ^ j / 2 + 2 ^ (j - 1) = r + 2 ^ j by omega]; exact q3) (by omega) _ (lv_sub hl [2, 1, 0] rfl)
  exact lp6 _ (0) (10) (by omega) (by omega) (by show n < 1048576; omega) (Nat.lt_succ_self _) _ (lv_sub hl [2, 1, 0] rfl)

-- X7_rootOf
set_option maxHeartbeats 4000000 in
set_option maxRecDepth 100000 in
theorem c_X7_rootOf (l : Launch) (n : Nat) (gn : n ≤ 1000000) : Met l yX7_rootOf wsX7_rootOf ({ frames := 0, cells := 0, slots := 0, locals := 0 }) (va_Pc [.int (zI (n))] (fun _ => True)) (vp_Si (fun r => r = zI (sqN n : Int))) 0 0 (fun _ => False) := by
  refine Met.ofW (cc := cX7_rootOf) (maxL := 3) (ret := (some .int)) (by decide) rfl ?_
  intro p e s m args below meth c s₁ B hml hv
  obtain ⟨rfl, -⟩ := hv
  have hx := B.exec
  have hb := B.bytes
  have hr := B.returns
  have hts := atoms_spec (ws := wsX7_rootOf) B.pre
  have hown : s.vm.findClass RX7 = some m.cls := findClass_of_methodNamed B.named
  have hlocks := B.notSynchronized
  have hl := lv_entry ([.int (zI (n))]) (n := 3) (Nat.le_of_ble_eq_true rfl)
  rw [lg_entry_eq]
  generalize (lg_sl ([.int (zI (n))]) ++ List.replicate (3 - (lg_sl ([.int (zI (n))])).length) Slot.unset).toArray = ls at hl ⊢
  have hl : lv_has ls 3 [(0, .int (zI (n)))] := hl
  refine lv_iconst (v := zI 0) hx hb dX7_rootOf_0 rfl ?_
  refine z_re (e2 := ((0 : Nat) : Int)) (rfl) ?_
  refine lv_istore_n (lv' := [(1, .int (zI (((0 : Nat) : Int)))), (0, .int (zI (n)))]) hx hb dX7_rootOf_1 rfl hl (by decide) rfl (fun ls hl => ?_)
  refine lv_sipush (v := zI 1024) hx hb dX7_rootOf_2 (by decide +kernel) ?_
  refine z_re (e2 := ((2 ^ 11 / 2 : Nat) : Int)) (by decide) ?_
  refine lv_istore_n (lv' := [(2, .int (zI (((2 ^ 11 / 2 : Nat) : Int)))), (1, .int (zI (((0 : Nat) : Int)))), (0, .int (zI (n)))]) hx hb dX7_rootOf_5 rfl hl (by decide) rfl (fun ls hl => ?_)
  have lp6 : ∀ (NN : Nat) (r : Nat) (j : Nat) (q1 : j ≤ 11) (q2 : r * r ≤ n) (q3 : n < (r + 2 ^ j) * (r + 2 ^ j)), j < NN → ∀ (ls : Array Slot), lv_has ls 3 [(0, .int (zI (n))), (1, .int (zI (r))), (2, .int (zI (((2 ^ j / 2 : Nat) : Int))))] → W p l e (headSpec wsX7_rootOf ({ frames := 0, cells := 0, slots := 0, locals := 0 })).room s m ([.int (zI (n))] : List Value).toArray below meth c s.heap [] 0 0 (MQ below (vp_Si (fun r => r = zI (sqN n : Int))) ([.int (zI (n))] : List Value).toArray s 0 0 (fun _ => False)) (F0 m 6 ls []) := by
    intro NN
    induction NN with
    | zero =>
      intro r j q1 q2 q3 hmu
      exact absurd hmu (Nat.not_lt_zero _)
    | succ NN ih6 =>
      intro r j q1 q2 q3 hmu ls hl
      have b0 := root_le q2 gn
      have p0 := Nat.two_pow_pos j
      have b1 := pw_bd (show j ≤ 11 by omega)
      have b2 : (r + 2 ^ j / 2) * (r + 2 ^ j / 2) ≤ 2048 * 2048 := Nat.mul_le_mul (by omega) (by omega)
      refine lv_iload_n hx hb dX7_rootOf_6 rfl (lv_at hl 2 rfl) ?_
      refine z_if_le (tgt := 32) hx hb dX7_rootOf_7 (by decide) (by omega) (fun c7 => ?_) (fun c7 => ?_)
      · have hj : j = 0 := pw_z (by omega)
        refine lv_iload_n hx hb dX7_rootOf_32 rfl (lv_at hl 1 rfl) ?_
        exact W.iret (v := (zI (r))) hx hb hr (fun tq ht hW => ⟨_, rfl, by rw [sqN_uniq q2 (by rw [hj] at q3; exact q3)], ht⟩) (fun q h => by cases h) dX7_rootOf_33
      · have hj : 1 ≤ j := pw_p (by omega)
        have e1 := pw_s hj
        have e2 : 2 ^ j / 2 = 2 ^ (j - 1) := by omega
        refine lv_iload_n hx hb dX7_rootOf_10 rfl (lv_at hl 1 rfl) ?_
        refine lv_iload_n hx hb dX7_rootOf_11 rfl (lv_at hl 2 rfl) ?_
        refine z_iadd hx hb dX7_rootOf_12 ?_
        refine z_re (e2 := ((r + 2 ^ j / 2 : Nat) : Int)) (by omega) ?_
        refine lv_iload_n hx hb dX7_rootOf_13 rfl (lv_at hl 1 rfl) ?_
        refine lv_iload_n hx hb dX7_rootOf_14 rfl (lv_at hl 2 rfl) ?_
        refine z_iadd hx hb dX7_rootOf_15 ?_
        refine z_re (e2 := ((r + 2 ^ j / 2 : Nat) : Int)) (by omega) ?_
        refine z_imul hx hb dX7_rootOf_16 ?_
        refine z_re (e2 := (((r + 2 ^ j / 2) * (r + 2 ^ j / 2) : Nat) : Int)) (by rw [Int.natCast_mul]) ?_
        refine lv_iload_n hx hb dX7_rootOf_17 rfl (lv_at hl 0 rfl) ?_
        refine z_icmp_gt (tgt := 25) hx hb dX7_rootOf_18 (by decide) (by omega) (by omega) (fun c18 => ?_) (fun c18 => ?_)
        · refine lv_iload_n hx hb dX7_rootOf_25 rfl (lv_at hl 2 rfl) ?_
          refine lv_iconst (v := zI 2) hx hb dX7_rootOf_26 rfl ?_
          refine z_idiv hx hb (by omega) (by omega) dX7_rootOf_27 ?_
          refine z_re (e2 := ((2 ^ (j - 1) / 2 : Nat) : Int)) (by omega) ?_
          refine lv_istore_n (lv' := [(2, .int (zI (((2 ^ (j - 1) / 2 : Nat) : Int)))), (0, .int (zI (n))), (1, .int (zI (r)))]) hx hb dX7_rootOf_28 rfl hl (by decide) rfl (fun ls hl => ?_)
          refine lv_goto (tgt := 6) hx hb dX7_rootOf_29 (by decide) ?_
          exact ih6 (r) (j - 1) (by omega) (q2) (by rw [← e2]; exact Int.ofNat_lt.mp c18) (by omega) _ (lv_sub hl [1, 2, 0] rfl)
        · refine lv_iload_n hx hb dX7_rootOf_21 rfl (lv_at hl 1 rfl) ?_
          refine lv_iload_n hx hb dX7_rootOf_22 rfl (lv_at hl 2 rfl) ?_
          refine z_iadd hx hb dX7_rootOf_23 ?_
          refine z_re (e2 := ((r + 2 ^ j / 2 : Nat) : Int)) (by omega) ?_
          refine lv_istore_n (lv' := [(1, .int (zI (((r + 2 ^ j / 2 : Nat) : Int)))), (0, .int (zI (n))), (2, .int (zI (((2 ^ j / 2 : Nat) : Int))))]) hx hb dX7_rootOf_24 rfl hl (by decide) rfl (fun ls hl => ?_)
          refine lv_iload_n hx hb dX7_rootOf_25 rfl (lv_at hl 2 rfl) ?_
          refine lv_iconst (v := zI 2) hx hb dX7_rootOf_26 rfl ?_
          refine z_idiv hx hb (by omega) (by omega) dX7_rootOf_27 ?_
          refine z_re (e2 := ((2 ^ (j - 1) / 2 : Nat) : Int)) (by omega) ?_
          refine lv_istore_n (lv' := [(2, .int (zI (((2 ^ (j - 1) / 2 : Nat) : Int)))), (1, .int (zI (((r + 2 ^ j / 2 : Nat) : Int)))), (0, .int (zI (n)))]) hx hb dX7_rootOf_28 rfl hl (by decide) rfl (fun ls hl => ?_)
          refine lv_goto (tgt := 6) hx hb dX7_rootOf_29 (by decide) ?_
          exact ih6 (r + 2 ^ j / 2) (j - 1) (by omega) (Int.ofNat_le.mp c18) (by rw [show r + 2 ^ j / 2 + 2 ^ (j - 1) = r + 2 ^ j by omega]; exact q3) (by omega) _ (lv_sub hl [2, 1, 0] rfl)
  exact lp6 _ (0) (11) (by omega) (by omega) (by show n < 4194304; omega) (Nat.lt_succ_self _) _ (lv_sub hl [2, 1, 0] rfl)

-- waysUpTo(most, n, 1)
set_option maxHeartbeats 4000000 in
set_option maxRecDepth 100000 in
theorem c_X4_waysUpTo_0 (l : Launch) (n most : Nat) (gn : n ≤ 1000000) (gm : most ≤ 1000) : Met l yX4_waysUpTo wsX4_waysUpTo ({ frames := 1, cells := 0, slots := 0, locals := 22 }) (va_Pc [.int (zI (most)), .int (zI (n)), .int (zI (1))] (fun _ => True)) (vp_Si (fun r => r = zI (wy 0 n most : Int))) 0 0 (fun _ => False) := by
  refine Met.ofW (cc := cX4_waysUpTo) (maxL := 6) (ret := (some .int)) (by decide) rfl ?_
  intro p e s m args below meth c s₁ B hml hv
  obtain ⟨rfl, -⟩ := hv
  have hx := B.exec
  have hb := B.bytes
  have hr := B.returns
  have hts := atoms_spec (ws := wsX4_waysUpTo) B.pre
  have hown : s.vm.findClass RX4 = some m.cls := findClass_of_methodNamed B.named
  have hlocks := B.notSynchronized
  have hl := lv_entry ([.int (zI (most)), .int (zI (n)), .int (zI (1))]) (n := 6) (Nat.le_of_ble_eq_true rfl)
  rw [lg_entry_eq]
  generalize (lg_sl ([.int (zI (most)), .int (zI (n)), .int (zI (1))]) ++ List.replicate (6 - (lg_sl ([.int (zI (most)), .int (zI (n)), .int (zI (1))])).length) Slot.unset).toArray = ls at hl ⊢
  have hl : lv_has ls 6 [(0, .int (zI (most))), (1, .int (zI (n))), (2, .int (zI (1)))] := hl
  have b0 := sqN_le gn
  have b1 := (sqN_spec n).1
  refine lv_iload_n hx hb dX4_waysUpTo_0 rfl (lv_at hl 1 rfl) ?_
  refine vp_callSi (va_runS (As := [.int (zI (n))]) (rest := []) ⟨hx, hb, hml, hown, hts⟩ (c_X4_rootOf l n gn) (va_cwS 1 hts gX4_waysUpTo_X4_rootOf rfl rfl rfl (by decide +kernel) ⟨Nat.le_of_ble_eq_true rfl, Nat.le_of_ble_eq_true rfl⟩) ⟨fun a U g mk q => q, fun U hU hW => ⟨rfl, trivial⟩⟩ rfl rfl hl.1 rfl (lv_room (Nat.le_of_ble_eq_true rfl)) dX4_waysUpTo_1 ⟨Nat.le_of_ble_eq_true rfl, Nat.le_of_ble_eq_true rfl⟩).run (fun r hr1 => ?_)
  obtain rfl := hr1
  refine lv_istore_n (lv' := [(3, .int (zI (((sqN (n) : Nat) : Int)))), (0, .int (zI (most))), (1, .int (zI (n))), (2, .int (zI (1)))]) hx hb dX4_waysUpTo_4 rfl hl (by decide) rfl (fun ls hl => ?_)
  refine lv_iload_n hx hb dX4_waysUpTo_5 rfl (lv_at hl 3 rfl) ?_
  refine lv_iconst (v := zI 1) hx hb dX4_waysUpTo_6 rfl ?_
  refine z_icmp_gt (tgt := 28) hx hb dX4_waysUpTo_7 (by decide) (by omega) (by omega) (fun c7 => ?_) (fun c7 => ?_)
  · exact absurd c7 (by omega)
  · refine lv_iload_n hx hb dX4_waysUpTo_10 rfl (lv_at hl 0 rfl) ?_
    refine lv_iload_n hx hb dX4_waysUpTo_11 rfl (lv_at hl 1 rfl) ?_
    refine z_icmp_gt (tgt := 26) hx hb dX4_waysUpTo_12 (by decide) (by omega) (by omega) (fun c12 => ?_) (fun c12 => ?_)
    · refine lv_iconst (v := zI 0) hx hb dX4_waysUpTo_26 rfl ?_
      exact W.iret (v := (zI (0))) hx hb hr (fun tq ht hW => ⟨_, rfl, by rw [w1_n (fun z => by omega)]; rfl, ht⟩) (fun q h => by cases h) dX4_waysUpTo_27
    · refine lv_iload_n hx hb dX4_waysUpTo_15 rfl (lv_at hl 0 rfl) ?_
      refine lv_iload_n hx hb dX4_waysUpTo_16 rfl (lv_at hl 0 rfl) ?_
      refine z_imul hx hb dX4_waysUpTo_17 ?_
      refine z_re (e2 := ((sqN n * sqN n : Nat) : Int)) (by rw [Int.natCast_mul]) ?_
      refine lv_iload_n hx hb dX4_waysUpTo_18 rfl (lv_at hl 2 rfl) ?_
      refine z_icmp_ne (tgt := 26) hx hb dX4_waysUpTo_19 (by decide) (by omega) (by omega) (fun c19 => ?_) (fun c19 => ?_)
      · refine lv_iconst (v := zI 0) hx hb dX4_waysUpTo_26 rfl ?_
        exact W.iret (v := (zI (0))) hx hb hr (fun tq ht hW => ⟨_, rfl, by rw [w1_n (fun z => by omega)]; rfl, ht⟩) (fun q h => by cases h) dX4_waysUpTo_27
      · refine lv_iconst (v := zI 1) hx hb dX4_waysUpTo_22 rfl ?_
        refine lv_goto (tgt := 27) hx hb dX4_waysUpTo_23 (by decide) ?_
        exact W.iret (v := (zI (1))) hx hb hr (fun tq ht hW => ⟨_, rfl, by rw [w1_y ⟨by omega, by omega⟩]; rfl, ht⟩) (fun q h => by cases h) dX4_waysUpTo_27

-- waysUpTo(most, n, 2)
set_option maxHeartbeats 4000000 in
set_option maxRecDepth 100000 in
theorem c_X4_waysUpTo_1 (l : Launch) (n most : Nat) (gn : n ≤ 1000000) (gm : most ≤ 1000) : Met l yX4_waysUpTo wsX4_waysUpTo ({ frames := 2, cells := 0, slots := 0, locals := 47 }) (va_Pc [.int (zI (most)), .int (zI (n)), .int (zI (2))] (fun _ => True)) (vp_Si (fun r => r = zI (wy 1 n most : Int))) 0 0 (fun _ => False) := by
  refine Met.ofW (cc := cX4_waysUpTo) (maxL := 6) (ret := (some .int)) (by decide) rfl ?_
  intro p e s m args below meth c s₁ B hml hv
  obtain ⟨rfl, -⟩ := hv
  have hx := B.exec
  have hb := B.bytes
  have hr := B.returns
  have hts := atoms_spec (ws := wsX4_waysUpTo) B.pre
  have hown : s.vm.findClass RX4 = some m.cls := findClass_of_methodNamed B.named
  have hlocks := B.notSynchronized
  have hl := lv_entry ([.int (zI (most)), .int (zI (n)), .int (zI (2))]) (n := 6) (Nat.le_of_ble_eq_true rfl)
  rw [lg_entry_eq]
  generalize (lg_sl ([.int (zI (most)), .int (zI (n)), .int (zI (2))]) ++ List.replicate (6 - (lg_sl ([.int (zI (most)), .int (zI (n)), .int (zI (2))])).length) Slot.unset).toArray = ls at hl ⊢
  have hl : lv_has ls 6 [(0, .int (zI (most))), (1, .int (zI (n))), (2, .int (zI (2)))] := hl
  have b0 := sqN_le gn
  refine lv_iload_n hx hb dX4_waysUpTo_0 rfl (lv_at hl 1 rfl) ?_
  refine vp_callSi (va_runS (As := [.int (zI (n))]) (rest := []) ⟨hx, hb, hml, hown, hts⟩ (c_X4_rootOf l n gn) (va_cwS 1 hts gX4_waysUpTo_X4_rootOf rfl rfl rfl (by decide +kernel) ⟨Nat.le_of_ble_eq_true rfl, Nat.le_of_ble_eq_true rfl⟩) ⟨fun a U g mk q => q, fun U hU hW => ⟨rfl, trivial⟩⟩ rfl rfl hl.1 rfl (lv_room (Nat.le_of_ble_eq_true rfl)) dX4_waysUpTo_1 ⟨Nat.le_of_ble_eq_true rfl, Nat.le_of_ble_eq_true rfl⟩).run (fun r hr1 => ?_)
  obtain rfl := hr1
  refine lv_istore_n (lv' := [(3, .int (zI (((sqN (n) : Nat) : Int)))), (0, .int (zI (most))), (1, .int (zI (n))), (2, .int (zI (2)))]) hx hb dX4_waysUpTo_4 rfl hl (by decide) rfl (fun ls hl => ?_)
  refine lv_iload_n hx hb dX4_waysUpTo_5 rfl (lv_at hl 3 rfl) ?_
  refine lv_iconst (v := zI 1) hx hb dX4_waysUpTo_6 rfl ?_
  refine z_icmp_gt (tgt := 28) hx hb dX4_waysUpTo_7 (by decide) (by omega) (by omega) (fun c7 => ?_) (fun c7 => ?_)
  · refine lv_iconst (v := zI 0) hx hb dX4_waysUpTo_28 rfl ?_
    refine z_re (e2 := ((0 : Nat) : Int)) (rfl) ?_
    refine lv_istore (lv' := [(4, .int (zI (((0 : Nat) : Int)))), (3, .int (zI (((sqN (n) : Nat) : Int)))), (0, .int (zI (most))), (1, .int (zI (n))), (2, .int (zI (2)))]) hx hb dX4_waysUpTo_29 hl (by decide) rfl (fun ls hl => ?_)
    refine lv_iload_n hx hb dX4_waysUpTo_31 rfl (lv_at hl 2 rfl) ?_
    refine lv_iload_n hx hb dX4_waysUpTo_32 rfl (lv_at hl 1 rfl) ?_
    refine z_mmin hx hb (hml.trans hl.1.symm) hown (hts (.methodLink RX4 17 Lib.Math.min.name) (by decide +kernel)) (hts (.static Lib.Math.min.name) (by decide +kernel)) (hts (.initialized "java/lang/Math") (by decide +kernel)) (hts (.code Lib.Math.min.name Lib.Math.min.code 2 (some .int)) (by decide +kernel)) (Nat.le_of_ble_eq_true rfl) (Nat.le_of_ble_eq_true rfl) (Nat.le_of_ble_eq_true rfl) (Nat.le_of_ble_eq_true rfl) (by omega) (by omega) dX4_waysUpTo_33 ?_
    refine z_re (e2 := ((min most (sqN n) + 1 : Nat) : Int) - 1) (by omega) ?_
    refine lv_istore (lv' := [(5, .int (zI (((min most (sqN n) + 1 : Nat) : Int) - 1))), (4, .int (zI (((0 : Nat) : Int)))), (3, .int (zI (((sqN (n) : Nat) : Int)))), (0, .int (zI (most))), (1, .int (zI (n))), (2, .int (zI (2)))]) hx hb dX4_waysUpTo_36 hl (by decide) rfl (fun ls hl => ?_)
    have lp38 : ∀ (NN : Nat) (b : Nat) (acc : Nat) (q1 : b ≤ min most (sqN n) + 1) (q3 : acc + sn (fun a => wy 0 (n - a * a) a) b = wy 1 n most), b < NN → ∀ (ls : Array Slot), lv_has ls 6 [(0, .int (zI (most))), (1, .int (zI (n))), (2, .int (zI (2))), (3, .int (zI (((sqN n : Nat) : Int)))), (4, .int (zI (acc))), (5, .int (zI ((b : Int) - 1)))] → W p l e (headSpec wsX4_waysUpTo ({ frames := 2, cells := 0, slots := 0, locals := 47 })).room s m ([.int (zI (most)), .int (zI (n)), .int (zI (2))] : List Value).toArray below meth c s.heap [] 0 0 (MQ below (vp_Si (fun r => r = zI (wy 1 n most : Int))) ([.int (zI (most)), .int (zI (n)), .int (zI (2))] : List Value).toArray s 0 0 (fun _ => False)) (F0 m 38 ls []) := by
      intro NN
      induction NN with
      | zero =>
        intro b acc q1 q3 hmu
        exact absurd hmu (Nat.not_lt_zero _)
      | succ NN ih38 =>
        intro b acc q1 q3 hmu ls hl
        refine lv_iload hx hb dX4_waysUpTo_38 (lv_at hl 5 rfl) ?_
        refine z_if_lt (tgt := 69) hx hb dX4_waysUpTo_40 (by decide) (by omega) (fun c40 => ?_) (fun c40 => ?_)
        · refine lv_iload hx hb dX4_waysUpTo_69 (lv_at hl 4 rfl) ?_
          exact W.iret (v := (zI (acc))) hx hb hr (fun tq ht hW => ⟨_, rfl, by rw [← q3, show b = 0 by omega]; rfl, ht⟩) (fun q h => by cases h) dX4_waysUpTo_71
        · have hsq : (b - 1) * (b - 1) ≤ n := sq_of_le (by omega)
          refine lv_iload hx hb dX4_waysUpTo_43 (lv_at hl 4 rfl) ?_
          refine lv_iload hx hb dX4_waysUpTo_45 (lv_at hl 5 rfl) ?_
          refine z_re (e2 := ((b - 1 : Nat) : Int)) (by omega) ?_
          refine lv_iload_n hx hb dX4_waysUpTo_47 rfl (lv_at hl 1 rfl) ?_
          refine lv_iload hx hb dX4_waysUpTo_48 (lv_at hl 5 rfl) ?_
          refine z_re (e2 := ((b - 1 : Nat) : Int)) (by omega) ?_
          refine lv_iload hx hb dX4_waysUpTo_50 (lv_at hl 5 rfl) ?_
          refine z_re (e2 := ((b - 1 : Nat) : Int)) (by omega) ?_
          refine z_imul hx hb dX4_waysUpTo_52 ?_
          refine z_re (e2 := (((b - 1) * (b - 1) : Nat) : Int)) (by rw [Int.natCast_mul]) ?_
          refine z_isub hx hb dX4_waysUpTo_53 ?_
          refine z_re (e2 := ((n - (b - 1) * (b - 1) : Nat) : Int)) (by omega) ?_
          refine lv_iload_n hx hb dX4_waysUpTo_54 rfl (lv_at hl 2 rfl) ?_
          refine lv_iconst (v := zI 1) hx hb dX4_waysUpTo_55 rfl ?_
          refine z_isub hx hb dX4_waysUpTo_56 ?_
          refine z_re (e2 := 1) (by omega) ?_
          refine vp_callSi (va_runS (As := [.int (zI (((b - 1 : Nat) : Int))), .int (zI (((n - (b - 1) * (b - 1) : Nat) : Int))), .int (zI (1))]) (rest := [.int (zI (acc))]) ⟨hx, hb, hml, hown, hts⟩ (c_X4_waysUpTo_0 l (n - (b - 1) * (b - 1)) (b - 1) (by omega) (by omega)) (va_cwS 3 hts gX4_waysUpTo_X4_waysUpTo rfl rfl rfl (by decide +kernel) ⟨Nat.le_of_ble_eq_true rfl, Nat.le_of_ble_eq_true rfl⟩) ⟨fun a U g mk q => q, fun U hU hW => ⟨rfl, trivial⟩⟩ rfl rfl hl.1 rfl (lv_room (Nat.le_of_ble_eq_true rfl)) dX4_waysUpTo_57 ⟨Nat.le_of_ble_eq_true rfl, Nat.le_of_ble_eq_true rfl⟩).run (fun r hr57 => ?_)
          obtain rfl := hr57
          refine z_iadd hx hb dX4_waysUpTo_60 ?_
          refine z_re (e2 := ((acc + wy 0 (n - (b - 1) * (b - 1)) (b - 1) : Nat) : Int)) (by omega) ?_
          refine lv_istore (lv' := [(4, .int (zI (((acc + wy 0 (n - (b - 1) * (b - 1)) (b - 1) : Nat) : Int)))), (0, .int (zI (most))), (1, .int (zI (n))), (2, .int (zI (2))), (3, .int (zI (((sqN n : Nat) : Int)))), (5, .int (zI ((b : Int) - 1)))]) hx hb dX4_waysUpTo_61 hl (by decide) rfl (fun ls hl => ?_)
          refine lv_iinc (v := zI (((b - 1 : Nat) : Int) - 1)) (lv' := [(5, .int (zI (((b - 1 : Nat) : Int) - 1))), (4, .int (zI (((acc + wy 0 (n - (b - 1) * (b - 1)) (b - 1) : Nat) : Int)))), (0, .int (zI (most))), (1, .int (zI (n))), (2, .int (zI (2))), (3, .int (zI (((sqN n : Nat) : Int))))]) hx hb dX4_waysUpTo_63 hl (k := 5) rfl (zI_incr (by omega)) (by decide) rfl (fun ls hl => ?_)
          refine lv_goto (tgt := 38) hx hb dX4_waysUpTo_66 (by decide) ?_
          exact ih38 (b - 1) (acc + wy 0 (n - (b - 1) * (b - 1)) (b - 1)) (by omega) (by have z := sn_p (fun a => wy 0 (n - a * a) a) (show 0 < b by omega); omega) (by omega) _ (lv_sub hl [2, 3, 4, 5, 1, 0] rfl)
    exact lp38 _ (min most (sqN n) + 1) (0) (by omega) (by rw [wy_s]; omega) (Nat.lt_succ_self _) _ (lv_sub hl [3, 4, 5, 2, 1, 0] rfl)
  · exact absurd c7 (by omega)

-- waysUpTo(most, n, 3)
set_option maxHeartbeats 4000000 in
set_option maxRecDepth 100000 in
theorem c_X4_waysUpTo_2 (l : Launch) (n most : Nat) (gn : n ≤ 1000000) (gm : most ≤ 1000) : Met l yX4_waysUpTo wsX4_waysUpTo ({ frames := 3, cells := 0, slots := 0, locals := 72 }) (va_Pc [.int (zI (most)), .int (zI (n)), .int (zI (3))] (fun _ => True)) (vp_Si (fun r => r = zI (wy 2 n most : Int))) 0 0 (fun _ => False) := by
  refine Met.ofW (cc := cX4_waysUpTo) (maxL := 6) (ret := (some .int)) (by decide) rfl ?_
  intro p e s m args below meth c s₁ B hml hv
  obtain ⟨rfl, -⟩ := hv
  have hx := B.exec
  have hb := B.bytes
  have hr := B.returns
  have hts := atoms_spec (ws := wsX4_waysUpTo) B.pre
  have hown : s.vm.findClass RX4 = some m.cls := findClass_of_methodNamed B.named
  have hlocks := B.notSynchronized
  have hl := lv_entry ([.int (zI (most)), .int (zI (n)), .int (zI (3))]) (n := 6) (Nat.le_of_ble_eq_true rfl)
  rw [lg_entry_eq]
  generalize (lg_sl ([.int (zI (most)), .int (zI (n)), .int (zI (3))]) ++ List.replicate (6 - (lg_sl ([.int (zI (most)), .int (zI (n)), .int (zI (3))])).length) Slot.unset).toArray = ls at hl ⊢
  have hl : lv_has ls 6 [(0, .int (zI (most))), (1, .int (zI (n))), (2, .int (zI (3)))] := hl
  have b0 := sqN_le gn
  refine lv_iload_n hx hb dX4_waysUpTo_0 rfl (lv_at hl 1 rfl) ?_
  refine vp_callSi (va_runS (As := [.int (zI (n))]) (rest := []) ⟨hx, hb, hml, hown, hts⟩ (c_X4_rootOf l n gn) (va_cwS 1 hts gX4_waysUpTo_X4_rootOf rfl rfl rfl (by decide +kernel) ⟨Nat.le_of_ble_eq_true rfl, Nat.le_of_ble_eq_true rfl⟩) ⟨fun a U g mk q => q, fun U hU hW => ⟨rfl, trivial⟩⟩ rfl rfl hl.1 rfl (lv_room (Nat.le_of_ble_eq_true rfl)) dX4_waysUpTo_1 ⟨Nat.le_of_ble_eq_true rfl, Nat.le_of_ble_eq_true rfl⟩).run (fun r hr1 => ?_)
  obtain rfl := hr1
  refine lv_istore_n (lv' := [(3, .int (zI (((sqN (n) : Nat) : Int)))), (0, .int (zI (most))), (1, .int (zI (n))), (2, .int (zI (3)))]) hx hb dX4_waysUpTo_4 rfl hl (by decide) rfl (fun ls hl => ?_)
  refine lv_iload_n hx hb dX4_waysUpTo_5 rfl (lv_at hl 3 rfl) ?_
  refine lv_iconst (v := zI 1) hx hb dX4_waysUpTo_6 rfl ?_
  refine z_icmp_gt (tgt := 28) hx hb dX4_waysUpTo_7 (by decide) (by omega) (by omega) (fun c7 => ?_) (fun c7 => ?_)
  · refine lv_iconst (v := zI 0) hx hb dX4_waysUpTo_28 rfl ?_
    refine z_re (e2 := ((0 : Nat) : Int)) (rfl) ?_
    refine lv_istore (lv' := [(4, .int (zI (((0 : Nat) : Int)))), (3, .int (zI (((sqN (n) : Nat) : Int)))), (0, .int (zI (most))), (1, .int (zI (n))), (2, .int (zI (3)))]) hx hb dX4_waysUpTo_29 hl (by decide) rfl (fun ls hl => ?_)
    refine lv_iload_n hx hb dX4_waysUpTo_31 rfl (lv_at hl 2 rfl) ?_
    refine lv_iload_n hx hb dX4_waysUpTo_32 rfl (lv_at hl 1 rfl) ?_
    refine z_mmin hx hb (hml.trans hl.1.symm) hown (hts (.methodLink RX4 17 Lib.Math.min.name) (by decide +kernel)) (hts (.static Lib.Math.min.name) (by decide +kernel)) (hts (.initialized "java/lang/Math") (by decide +kernel)) (hts (.code Lib.Math.min.name Lib.Math.min.code 2 (some .int)) (by decide +kernel)) (Nat.le_of_ble_eq_true rfl) (Nat.le_of_ble_eq_true rfl) (Nat.le_of_ble_eq_true rfl) (Nat.le_of_ble_eq_true rfl) (by omega) (by omega) dX4_waysUpTo_33 ?_
    refine z_re (e2 := ((min most (sqN n) + 1 : Nat) : Int) - 1) (by omega) ?_
    refine lv_istore (lv' := [(5, .int (zI (((min most (sqN n) + 1 : Nat) : Int) - 1))), (4, .int (zI (((0 : Nat) : Int)))), (3, .int (zI (((sqN (n) : Nat) : Int)))), (0, .int (zI (most))), (1, .int (zI (n))), (2, .int (zI (3)))]) hx hb dX4_waysUpTo_36 hl (by decide) rfl (fun ls hl => ?_)
    have lp38 : ∀ (NN : Nat) (b : Nat) (acc : Nat) (q1 : b ≤ min most (sqN n) + 1) (q3 : acc + sn (fun a => wy 1 (n - a * a) a) b = wy 2 n most), b < NN → ∀ (ls : Array Slot), lv_has ls 6 [(0, .int (zI (most))), (1, .int (zI (n))), (2, .int (zI (3))), (3, .int (zI (((sqN n : Nat) : Int)))), (4, .int (zI (acc))), (5, .int (zI ((b : Int) - 1)))] → W p l e (headSpec wsX4_waysUpTo ({ frames := 3, cells := 0, slots := 0, locals := 72 })).room s m ([.int (zI (most)), .int (zI (n)), .int (zI (3))] : List Value).toArray below meth c s.heap [] 0 0 (MQ below (vp_Si (fun r => r = zI (wy 2 n most : Int))) ([.int (zI (most)), .int (zI (n)), .int (zI (3))] : List Value).toArray s 0 0 (fun _ => False)) (F0 m 38 ls []) := by
      intro NN
      induction NN with
      | zero =>
        intro b acc q1 q3 hmu
        exact absurd hmu (Nat.not_lt_zero _)
      | succ NN ih38 =>
        intro b acc q1 q3 hmu ls hl
        refine lv_iload hx hb dX4_waysUpTo_38 (lv_at hl 5 rfl) ?_
        refine z_if_lt (tgt := 69) hx hb dX4_waysUpTo_40 (by decide) (by omega) (fun c40 => ?_) (fun c40 => ?_)
        · refine lv_iload hx hb dX4_waysUpTo_69 (lv_at hl 4 rfl) ?_
          exact W.iret (v := (zI (acc))) hx hb hr (fun tq ht hW => ⟨_, rfl, by rw [← q3, show b = 0 by omega]; rfl, ht⟩) (fun q h => by cases h) dX4_waysUpTo_71
        · have hsq : (b - 1) * (b - 1) ≤ n := sq_of_le (by omega)
          refine lv_iload hx hb dX4_waysUpTo_43 (lv_at hl 4 rfl) ?_
          refine lv_iload hx hb dX4_waysUpTo_45 (lv_at hl 5 rfl) ?_
          refine z_re (e2 := ((b - 1 : Nat) : Int)) (by omega) ?_
          refine lv_iload_n hx hb dX4_waysUpTo_47 rfl (lv_at hl 1 rfl) ?_
          refine lv_iload hx hb dX4_waysUpTo_48 (lv_at hl 5 rfl) ?_
          refine z_re (e2 := ((b - 1 : Nat) : Int)) (by omega) ?_
          refine lv_iload hx hb dX4_waysUpTo_50 (lv_at hl 5 rfl) ?_
          refine z_re (e2 := ((b - 1 : Nat) : Int)) (by omega) ?_
          refine z_imul hx hb dX4_waysUpTo_52 ?_
          refine z_re (e2 := (((b - 1) * (b - 1) : Nat) : Int)) (by rw [Int.natCast_mul]) ?_
          refine z_isub hx hb dX4_waysUpTo_53 ?_
          refine z_re (e2 := ((n - (b - 1) * (b - 1) : Nat) : Int)) (by omega) ?_
          refine lv_iload_n hx hb dX4_waysUpTo_54 rfl (lv_at hl 2 rfl) ?_
          refine lv_iconst (v := zI 1) hx hb dX4_waysUpTo_55 rfl ?_
          refine z_isub hx hb dX4_waysUpTo_56 ?_
          refine z_re (e2 := 2) (by omega) ?_
          refine vp_callSi (va_runS (As := [.int (zI (((b - 1 : Nat) : Int))), .int (zI (((n - (b - 1) * (b - 1) : Nat) : Int))), .int (zI (2))]) (rest := [.int (zI (acc))]) ⟨hx, hb, hml, hown, hts⟩ (c_X4_waysUpTo_1 l (n - (b - 1) * (b - 1)) (b - 1) (by omega) (by omega)) (va_cwS 3 hts gX4_waysUpTo_X4_waysUpTo rfl rfl rfl (by decide +kernel) ⟨Nat.le_of_ble_eq_true rfl, Nat.le_of_ble_eq_true rfl⟩) ⟨fun a U g mk q => q, fun U hU hW => ⟨rfl, trivial⟩⟩ rfl rfl hl.1 rfl (lv_room (Nat.le_of_ble_eq_true rfl)) dX4_waysUpTo_57 ⟨Nat.le_of_ble_eq_true rfl, Nat.le_of_ble_eq_true rfl⟩).run (fun r hr57 => ?_)
          obtain rfl := hr57
          refine z_iadd hx hb dX4_waysUpTo_60 ?_
          refine z_re (e2 := ((acc + wy 1 (n - (b - 1) * (b - 1)) (b - 1) : Nat) : Int)) (by omega) ?_
          refine lv_istore (lv' := [(4, .int (zI (((acc + wy 1 (n - (b - 1) * (b - 1)) (b - 1) : Nat) : Int)))), (0, .int (zI (most))), (1, .int (zI (n))), (2, .int (zI (3))), (3, .int (zI (((sqN n : Nat) : Int)))), (5, .int (zI ((b : Int) - 1)))]) hx hb dX4_waysUpTo_61 hl (by decide) rfl (fun ls hl => ?_)
          refine lv_iinc (v := zI (((b - 1 : Nat) : Int) - 1)) (lv' := [(5, .int (zI (((b - 1 : Nat) : Int) - 1))), (4, .int (zI (((acc + wy 1 (n - (b - 1) * (b - 1)) (b - 1) : Nat) : Int)))), (0, .int (zI (most))), (1, .int (zI (n))), (2, .int (zI (3))), (3, .int (zI (((sqN n : Nat) : Int))))]) hx hb dX4_waysUpTo_63 hl (k := 5) rfl (zI_incr (by omega)) (by decide) rfl (fun ls hl => ?_)
          refine lv_goto (tgt := 38) hx hb dX4_waysUpTo_66 (by decide) ?_
          exact ih38 (b - 1) (acc + wy 1 (n - (b - 1) * (b - 1)) (b - 1)) (by omega) (by have z := sn_p (fun a => wy 1 (n - a * a) a) (show 0 < b by omega); omega) (by omega) _ (lv_sub hl [2, 3, 4, 5, 1, 0] rfl)
    exact lp38 _ (min most (sqN n) + 1) (0) (by omega) (by rw [wy_s]; omega) (Nat.lt_succ_self _) _ (lv_sub hl [3, 4, 5, 2, 1, 0] rfl)
  · exact absurd c7 (by omega)

-- waysUpTo(most, n, 4)
set_option maxHeartbeats 4000000 in
set_option maxRecDepth 100000 in
theorem c_X4_waysUpTo_3 (l : Launch) (n most : Nat) (gn : n ≤ 1000000) (gm : most ≤ 1000) : Met l yX4_waysUpTo wsX4_waysUpTo ({ frames := 4, cells := 0, slots := 0, locals := 97 }) (va_Pc [.int (zI (most)), .int (zI (n)), .int (zI (4))] (fun _ => True)) (vp_Si (fun r => r = zI (wy 3 n most : Int))) 0 0 (fun _ => False) := by
  refine Met.ofW (cc := cX4_waysUpTo) (maxL := 6) (ret := (some .int)) (by decide) rfl ?_
  intro p e s m args below meth c s₁ B hml hv
  obtain ⟨rfl, -⟩ := hv
  have hx := B.exec
  have hb := B.bytes
  have hr := B.returns
  have hts := atoms_spec (ws := wsX4_waysUpTo) B.pre
  have hown : s.vm.findClass RX4 = some m.cls := findClass_of_methodNamed B.named
  have hlocks := B.notSynchronized
  have hl := lv_entry ([.int (zI (most)), .int (zI (n)), .int (zI (4))]) (n := 6) (Nat.le_of_ble_eq_true rfl)
  rw [lg_entry_eq]
  generalize (lg_sl ([.int (zI (most)), .int (zI (n)), .int (zI (4))]) ++ List.replicate (6 - (lg_sl ([.int (zI (most)), .int (zI (n)), .int (zI (4))])).length) Slot.unset).toArray = ls at hl ⊢
  have hl : lv_has ls 6 [(0, .int (zI (most))), (1, .int (zI (n))), (2, .int (zI (4)))] := hl
  have b0 := sqN_le gn
  refine lv_iload_n hx hb dX4_waysUpTo_0 rfl (lv_at hl 1 rfl) ?_
  refine vp_callSi (va_runS (As := [.int (zI (n))]) (rest := []) ⟨hx, hb, hml, hown, hts⟩ (c_X4_rootOf l n gn) (va_cwS 1 hts gX4_waysUpTo_X4_rootOf rfl rfl rfl (by decide +kernel) ⟨Nat.le_of_ble_eq_true rfl, Nat.le_of_ble_eq_true rfl⟩) ⟨fun a U g mk q => q, fun U hU hW => ⟨rfl, trivial⟩⟩ rfl rfl hl.1 rfl (lv_room (Nat.le_of_ble_eq_true rfl)) dX4_waysUpTo_1 ⟨Nat.le_of_ble_eq_true rfl, Nat.le_of_ble_eq_true rfl⟩).run (fun r hr1 => ?_)
  obtain rfl := hr1
  refine lv_istore_n (lv' := [(3, .int (zI (((sqN (n) : Nat) : Int)))), (0, .int (zI (most))), (1, .int (zI (n))), (2, .int (zI (4)))]) hx hb dX4_waysUpTo_4 rfl hl (by decide) rfl (fun ls hl => ?_)
  refine lv_iload_n hx hb dX4_waysUpTo_5 rfl (lv_at hl 3 rfl) ?_
  refine lv_iconst (v := zI 1) hx hb dX4_waysUpTo_6 rfl ?_
  refine z_icmp_gt (tgt := 28) hx hb dX4_waysUpTo_7 (by decide) (by omega) (by omega) (fun c7 => ?_) (fun c7 => ?_)
  · refine lv_iconst (v := zI 0) hx hb dX4_waysUpTo_28 rfl ?_
    refine z_re (e2 := ((0 : Nat) : Int)) (rfl) ?_
    refine lv_istore (lv' := [(4, .int (zI (((0 : Nat) : Int)))), (3, .int (zI (((sqN (n) : Nat) : Int)))), (0, .int (zI (most))), (1, .int (zI (n))), (2, .int (zI (4)))]) hx hb dX4_waysUpTo_29 hl (by decide) rfl (fun ls hl => ?_)
    refine lv_iload_n hx hb dX4_waysUpTo_31 rfl (lv_at hl 2 rfl) ?_
    refine lv_iload_n hx hb dX4_waysUpTo_32 rfl (lv_at hl 1 rfl) ?_
    refine z_mmin hx hb (hml.trans hl.1.symm) hown (hts (.methodLink RX4 17 Lib.Math.min.name) (by decide +kernel)) (hts (.static Lib.Math.min.name) (by decide +kernel)) (hts (.initialized "java/lang/Math") (by decide +kernel)) (hts (.code Lib.Math.min.name Lib.Math.min.code 2 (some .int)) (by decide +kernel)) (Nat.le_of_ble_eq_true rfl) (Nat.le_of_ble_eq_true rfl) (Nat.le_of_ble_eq_true rfl) (Nat.le_of_ble_eq_true rfl) (by omega) (by omega) dX4_waysUpTo_33 ?_
    refine z_re (e2 := ((min most (sqN n) + 1 : Nat) : Int) - 1) (by omega) ?_
    refine lv_istore (lv' := [(5, .int (zI (((min most (sqN n) + 1 : Nat) : Int) - 1))), (4, .int (zI (((0 : Nat) : Int)))), (3, .int (zI (((sqN (n) : Nat) : Int)))), (0, .int (zI (most))), (1, .int (zI (n))), (2, .int (zI (4)))]) hx hb dX4_waysUpTo_36 hl (by decide) rfl (fun ls hl => ?_)
    have lp38 : ∀ (NN : Nat) (b : Nat) (acc : Nat) (q1 : b ≤ min most (sqN n) + 1) (q3 : acc + sn (fun a => wy 2 (n - a * a) a) b = wy 3 n most), b < NN → ∀ (ls : Array Slot), lv_has ls 6 [(0, .int (zI (most))), (1, .int (zI (n))), (2, .int (zI (4))), (3, .int (zI (((sqN n : Nat) : Int)))), (4, .int (zI (acc))), (5, .int (zI ((b : Int) - 1)))] → W p l e (headSpec wsX4_waysUpTo ({ frames := 4, cells := 0, slots := 0, locals := 97 })).room s m ([.int (zI (most)), .int (zI (n)), .int (zI (4))] : List Value).toArray below meth c s.heap [] 0 0 (MQ below (vp_Si (fun r => r = zI (wy 3 n most : Int))) ([.int (zI (most)), .int (zI (n)), .int (zI (4))] : List Value).toArray s 0 0 (fun _ => False)) (F0 m 38 ls []) := by
      intro NN
      induction NN with
      | zero =>
        intro b acc q1 q3 hmu
        exact absurd hmu (Nat.not_lt_zero _)
      | succ NN ih38 =>
        intro b acc q1 q3 hmu ls hl
        refine lv_iload hx hb dX4_waysUpTo_38 (lv_at hl 5 rfl) ?_
        refine z_if_lt (tgt := 69) hx hb dX4_waysUpTo_40 (by decide) (by omega) (fun c40 => ?_) (fun c40 => ?_)
        · refine lv_iload hx hb dX4_waysUpTo_69 (lv_at hl 4 rfl) ?_
          exact W.iret (v := (zI (acc))) hx hb hr (fun tq ht hW => ⟨_, rfl, by rw [← q3, show b = 0 by omega]; rfl, ht⟩) (fun q h => by cases h) dX4_waysUpTo_71
        · have hsq : (b - 1) * (b - 1) ≤ n := sq_of_le (by omega)
          refine lv_iload hx hb dX4_waysUpTo_43 (lv_at hl 4 rfl) ?_
          refine lv_iload hx hb dX4_waysUpTo_45 (lv_at hl 5 rfl) ?_
          refine z_re (e2 := ((b - 1 : Nat) : Int)) (by omega) ?_
          refine lv_iload_n hx hb dX4_waysUpTo_47 rfl (lv_at hl 1 rfl) ?_
          refine lv_iload hx hb dX4_waysUpTo_48 (lv_at hl 5 rfl) ?_
          refine z_re (e2 := ((b - 1 : Nat) : Int)) (by omega) ?_
          refine lv_iload hx hb dX4_waysUpTo_50 (lv_at hl 5 rfl) ?_
          refine z_re (e2 := ((b - 1 : Nat) : Int)) (by omega) ?_
          refine z_imul hx hb dX4_waysUpTo_52 ?_
          refine z_re (e2 := (((b - 1) * (b - 1) : Nat) : Int)) (by rw [Int.natCast_mul]) ?_
          refine z_isub hx hb dX4_waysUpTo_53 ?_
          refine z_re (e2 := ((n - (b - 1) * (b - 1) : Nat) : Int)) (by omega) ?_
          refine lv_iload_n hx hb dX4_waysUpTo_54 rfl (lv_at hl 2 rfl) ?_
          refine lv_iconst (v := zI 1) hx hb dX4_waysUpTo_55 rfl ?_
          refine z_isub hx hb dX4_waysUpTo_56 ?_
          refine z_re (e2 := 3) (by omega) ?_
          refine vp_callSi (va_runS (As := [.int (zI (((b - 1 : Nat) : Int))), .int (zI (((n - (b - 1) * (b - 1) : Nat) : Int))), .int (zI (3))]) (rest := [.int (zI (acc))]) ⟨hx, hb, hml, hown, hts⟩ (c_X4_waysUpTo_2 l (n - (b - 1) * (b - 1)) (b - 1) (by omega) (by omega)) (va_cwS 3 hts gX4_waysUpTo_X4_waysUpTo rfl rfl rfl (by decide +kernel) ⟨Nat.le_of_ble_eq_true rfl, Nat.le_of_ble_eq_true rfl⟩) ⟨fun a U g mk q => q, fun U hU hW => ⟨rfl, trivial⟩⟩ rfl rfl hl.1 rfl (lv_room (Nat.le_of_ble_eq_true rfl)) dX4_waysUpTo_57 ⟨Nat.le_of_ble_eq_true rfl, Nat.le_of_ble_eq_true rfl⟩).run (fun r hr57 => ?_)
          obtain rfl := hr57
          refine z_iadd hx hb dX4_waysUpTo_60 ?_
          refine z_re (e2 := ((acc + wy 2 (n - (b - 1) * (b - 1)) (b - 1) : Nat) : Int)) (by omega) ?_
          refine lv_istore (lv' := [(4, .int (zI (((acc + wy 2 (n - (b - 1) * (b - 1)) (b - 1) : Nat) : Int)))), (0, .int (zI (most))), (1, .int (zI (n))), (2, .int (zI (4))), (3, .int (zI (((sqN n : Nat) : Int)))), (5, .int (zI ((b : Int) - 1)))]) hx hb dX4_waysUpTo_61 hl (by decide) rfl (fun ls hl => ?_)
          refine lv_iinc (v := zI (((b - 1 : Nat) : Int) - 1)) (lv' := [(5, .int (zI (((b - 1 : Nat) : Int) - 1))), (4, .int (zI (((acc + wy 2 (n - (b - 1) * (b - 1)) (b - 1) : Nat) : Int)))), (0, .int (zI (most))), (1, .int (zI (n))), (2, .int (zI (4))), (3, .int (zI (((sqN n : Nat) : Int))))]) hx hb dX4_waysUpTo_63 hl (k := 5) rfl (zI_incr (by omega)) (by decide) rfl (fun ls hl => ?_)
          refine lv_goto (tgt := 38) hx hb dX4_waysUpTo_66 (by decide) ?_
          exact ih38 (b - 1) (acc + wy 2 (n - (b - 1) * (b - 1)) (b - 1)) (by omega) (by have z := sn_p (fun a => wy 2 (n - a * a) a) (show 0 < b by omega); omega) (by omega) _ (lv_sub hl [2, 3, 4, 5, 1, 0] rfl)
    exact lp38 _ (min most (sqN n) + 1) (0) (by omega) (by rw [wy_s]; omega) (Nat.lt_succ_self _) _ (lv_sub hl [3, 4, 5, 2, 1, 0] rfl)
  · exact absurd c7 (by omega)

-- ways(n, 1)
set_option maxHeartbeats 4000000 in
set_option maxRecDepth 100000 in
theorem c_X4_ways_0 (l : Launch) (n : Nat) (gn : n ≤ 1000000) : Met l yX4_ways wsX4_ways ({ frames := 2, cells := 0, slots := 0, locals := 47 }) (va_Pc [.int (zI (n)), .int (zI (1))] (fun _ => True)) (vp_Si (fun r => r = zI (wy 0 n (sqN n) : Int))) 0 0 (fun _ => False) := by
  refine Met.ofW (cc := cX4_ways) (maxL := 2) (ret := (some .int)) (by decide) rfl ?_
  intro p e s m args below meth c s₁ B hml hv
  obtain ⟨rfl, -⟩ := hv
  have hx := B.exec
  have hb := B.bytes
  have hr := B.returns
  have hts := atoms_spec (ws := wsX4_ways) B.pre
  have hown : s.vm.findClass RX4 = some m.cls := findClass_of_methodNamed B.named
  have hlocks := B.notSynchronized
  have hl := lv_entry ([.int (zI (n)), .int (zI (1))]) (n := 2) (Nat.le_of_ble_eq_true rfl)
  rw [lg_entry_eq]
  generalize (lg_sl ([.int (zI (n)), .int (zI (1))]) ++ List.replicate (2 - (lg_sl ([.int (zI (n)), .int (zI (1))])).length) Slot.unset).toArray = ls at hl ⊢
  have hl : lv_has ls 2 [(0, .int (zI (n))), (1, .int (zI (1)))] := hl
  refine lv_iload_n hx hb dX4_ways_0 rfl (lv_at hl 0 rfl) ?_
  refine vp_callSi (va_runS (As := [.int (zI (n))]) (rest := []) ⟨hx, hb, hml, hown, hts⟩ (c_X4_rootOf l n gn) (va_cwS 1 hts gX4_ways_X4_rootOf rfl rfl rfl (by decide +kernel) ⟨Nat.le_of_ble_eq_true rfl, Nat.le_of_ble_eq_true rfl⟩) ⟨fun a U g mk q => q, fun U hU hW => ⟨rfl, trivial⟩⟩ rfl rfl hl.1 rfl (lv_room (Nat.le_of_ble_eq_true rfl)) dX4_ways_1 ⟨Nat.le_of_ble_eq_true rfl, Nat.le_of_ble_eq_true rfl⟩).run (fun r hr1 => ?_)
  obtain rfl := hr1
  refine lv_iload_n hx hb dX4_ways_4 rfl (lv_at hl 0 rfl) ?_
  refine lv_iload_n hx hb dX4_ways_5 rfl (lv_at hl 1 rfl) ?_
  refine vp_callSi (va_runS (As := [.int (zI (((sqN (n) : Nat) : Int))), .int (zI (n)), .int (zI (1))]) (rest := []) ⟨hx, hb, hml, hown, hts⟩ (c_X4_waysUpTo_0 l n (sqN n) gn (sqN_le gn)) (va_cwS 3 hts gX4_ways_X4_waysUpTo rfl rfl rfl (by decide +kernel) ⟨Nat.le_of_ble_eq_true rfl, Nat.le_of_ble_eq_true rfl⟩) ⟨fun a U g mk q => q, fun U hU hW => ⟨rfl, trivial⟩⟩ rfl rfl hl.1 rfl (lv_room (Nat.le_of_ble_eq_true rfl)) dX4_ways_6 ⟨Nat.le_of_ble_eq_true rfl, Nat.le_of_ble_eq_true rfl⟩).run (fun r hr6 => ?_)
  obtain rfl := hr6
  exact W.iret (v := (zI (((wy 0 (n) (sqN (n)) : Nat) : Int)))) hx hb hr (fun tq ht hW => ⟨_, rfl, rfl, ht⟩) (fun q h => by cases h) dX4_ways_9

-- ways(n, 2)
set_option maxHeartbeats 4000000 in
set_option maxRecDepth 100000 in
theorem c_X4_ways_1 (l : Launch) (n : Nat) (gn : n ≤ 1000000) : Met l yX4_ways wsX4_ways ({ frames := 3, cells := 0, slots := 0, locals := 72 }) (va_Pc [.int (zI (n)), .int (zI (2))] (fun _ => True)) (vp_Si (fun r => r = zI (wy 1 n (sqN n) : Int))) 0 0 (fun _ => False) := by
  refine Met.ofW (cc := cX4_ways) (maxL := 2) (ret := (some .int)) (by decide) rfl ?_
  intro p e s m args below meth c s₁ B hml hv
  obtain ⟨rfl, -⟩ := hv
  have hx := B.exec
  have hb := B.bytes
  have hr := B.returns
  have hts := atoms_spec (ws := wsX4_ways) B.pre
  have hown : s.vm.findClass RX4 = some m.cls := findClass_of_methodNamed B.named
  have hlocks := B.notSynchronized
  have hl := lv_entry ([.int (zI (n)), .int (zI (2))]) (n := 2) (Nat.le_of_ble_eq_true rfl)
  rw [lg_entry_eq]
  generalize (lg_sl ([.int (zI (n)), .int (zI (2))]) ++ List.replicate (2 - (lg_sl ([.int (zI (n)), .int (zI (2))])).length) Slot.unset).toArray = ls at hl ⊢
  have hl : lv_has ls 2 [(0, .int (zI (n))), (1, .int (zI (2)))] := hl
  refine lv_iload_n hx hb dX4_ways_0 rfl (lv_at hl 0 rfl) ?_
  refine vp_callSi (va_runS (As := [.int (zI (n))]) (rest := []) ⟨hx, hb, hml, hown, hts⟩ (c_X4_rootOf l n gn) (va_cwS 1 hts gX4_ways_X4_rootOf rfl rfl rfl (by decide +kernel) ⟨Nat.le_of_ble_eq_true rfl, Nat.le_of_ble_eq_true rfl⟩) ⟨fun a U g mk q => q, fun U hU hW => ⟨rfl, trivial⟩⟩ rfl rfl hl.1 rfl (lv_room (Nat.le_of_ble_eq_true rfl)) dX4_ways_1 ⟨Nat.le_of_ble_eq_true rfl, Nat.le_of_ble_eq_true rfl⟩).run (fun r hr1 => ?_)
  obtain rfl := hr1
  refine lv_iload_n hx hb dX4_ways_4 rfl (lv_at hl 0 rfl) ?_
  refine lv_iload_n hx hb dX4_ways_5 rfl (lv_at hl 1 rfl) ?_
  refine vp_callSi (va_runS (As := [.int (zI (((sqN (n) : Nat) : Int))), .int (zI (n)), .int (zI (2))]) (rest := []) ⟨hx, hb, hml, hown, hts⟩ (c_X4_waysUpTo_1 l n (sqN n) gn (sqN_le gn)) (va_cwS 3 hts gX4_ways_X4_waysUpTo rfl rfl rfl (by decide +kernel) ⟨Nat.le_of_ble_eq_true rfl, Nat.le_of_ble_eq_true rfl⟩) ⟨fun a U g mk q => q, fun U hU hW => ⟨rfl, trivial⟩⟩ rfl rfl hl.1 rfl (lv_room (Nat.le_of_ble_eq_true rfl)) dX4_ways_6 ⟨Nat.le_of_ble_eq_true rfl, Nat.le_of_ble_eq_true rfl⟩).run (fun r hr6 => ?_)
  obtain rfl := hr6
  exact W.iret (v := (zI (((wy 1 (n) (sqN (n)) : Nat) : Int)))) hx hb hr (fun tq ht hW => ⟨_, rfl, rfl, ht⟩) (fun q h => by cases h) dX4_ways_9

-- ways(n, 3)
set_option maxHeartbeats 4000000 in
set_option maxRecDepth 100000 in
theorem c_X4_ways_2 (l : Launch) (n : Nat) (gn : n ≤ 1000000) : Met l yX4_ways wsX4_ways ({ frames := 4, cells := 0, slots := 0, locals := 97 }) (va_Pc [.int (zI (n)), .int (zI (3))] (fun _ => True)) (vp_Si (fun r => r = zI (wy 2 n (sqN n) : Int))) 0 0 (fun _ => False) := by
  refine Met.ofW (cc := cX4_ways) (maxL := 2) (ret := (some .int)) (by decide) rfl ?_
  intro p e s m args below meth c s₁ B hml hv
  obtain ⟨rfl, -⟩ := hv
  have hx := B.exec
  have hb := B.bytes
  have hr := B.returns
  have hts := atoms_spec (ws := wsX4_ways) B.pre
  have hown : s.vm.findClass RX4 = some m.cls := findClass_of_methodNamed B.named
  have hlocks := B.notSynchronized
  have hl := lv_entry ([.int (zI (n)), .int (zI (3))]) (n := 2) (Nat.le_of_ble_eq_true rfl)
  rw [lg_entry_eq]
  generalize (lg_sl ([.int (zI (n)), .int (zI (3))]) ++ List.replicate (2 - (lg_sl ([.int (zI (n)), .int (zI (3))])).length) Slot.unset).toArray = ls at hl ⊢
  have hl : lv_has ls 2 [(0, .int (zI (n))), (1, .int (zI (3)))] := hl
  refine lv_iload_n hx hb dX4_ways_0 rfl (lv_at hl 0 rfl) ?_
  refine vp_callSi (va_runS (As := [.int (zI (n))]) (rest := []) ⟨hx, hb, hml, hown, hts⟩ (c_X4_rootOf l n gn) (va_cwS 1 hts gX4_ways_X4_rootOf rfl rfl rfl (by decide +kernel) ⟨Nat.le_of_ble_eq_true rfl, Nat.le_of_ble_eq_true rfl⟩) ⟨fun a U g mk q => q, fun U hU hW => ⟨rfl, trivial⟩⟩ rfl rfl hl.1 rfl (lv_room (Nat.le_of_ble_eq_true rfl)) dX4_ways_1 ⟨Nat.le_of_ble_eq_true rfl, Nat.le_of_ble_eq_true rfl⟩).run (fun r hr1 => ?_)
  obtain rfl := hr1
  refine lv_iload_n hx hb dX4_ways_4 rfl (lv_at hl 0 rfl) ?_
  refine lv_iload_n hx hb dX4_ways_5 rfl (lv_at hl 1 rfl) ?_
  refine vp_callSi (va_runS (As := [.int (zI (((sqN (n) : Nat) : Int))), .int (zI (n)), .int (zI (3))]) (rest := []) ⟨hx, hb, hml, hown, hts⟩ (c_X4_waysUpTo_2 l n (sqN n) gn (sqN_le gn)) (va_cwS 3 hts gX4_ways_X4_waysUpTo rfl rfl rfl (by decide +kernel) ⟨Nat.le_of_ble_eq_true rfl, Nat.le_of_ble_eq_true rfl⟩) ⟨fun a U g mk q => q, fun U hU hW => ⟨rfl, trivial⟩⟩ rfl rfl hl.1 rfl (lv_room (Nat.le_of_ble_eq_true rfl)) dX4_ways_6 ⟨Nat.le_of_ble_eq_true rfl, Nat.le_of_ble_eq_true rfl⟩).run (fun r hr6 => ?_)
  obtain rfl := hr6
  exact W.iret (v := (zI (((wy 2 (n) (sqN (n)) : Nat) : Int)))) hx hb hr (fun tq ht hW => ⟨_, rfl, rfl, ht⟩) (fun q h => by cases h) dX4_ways_9

-- ways(n, 4)
set_option maxHeartbeats 4000000 in
set_option maxRecDepth 100000 in
theorem c_X4_ways_3 (l : Launch) (n : Nat) (gn : n ≤ 1000000) : Met l yX4_ways wsX4_ways ({ frames := 5, cells := 0, slots := 0, locals := 122 }) (va_Pc [.int (zI (n)), .int (zI (4))] (fun _ => True)) (vp_Si (fun r => r = zI (wy 3 n (sqN n) : Int))) 0 0 (fun _ => False) := by
  refine Met.ofW (cc := cX4_ways) (maxL := 2) (ret := (some .int)) (by decide) rfl ?_
  intro p e s m args below meth c s₁ B hml hv
  obtain ⟨rfl, -⟩ := hv
  have hx := B.exec
  have hb := B.bytes
  have hr := B.returns
  have hts := atoms_spec (ws := wsX4_ways) B.pre
  have hown : s.vm.findClass RX4 = some m.cls := findClass_of_methodNamed B.named
  have hlocks := B.notSynchronized
  have hl := lv_entry ([.int (zI (n)), .int (zI (4))]) (n := 2) (Nat.le_of_ble_eq_true rfl)
  rw [lg_entry_eq]
  generalize (lg_sl ([.int (zI (n)), .int (zI (4))]) ++ List.replicate (2 - (lg_sl ([.int (zI (n)), .int (zI (4))])).length) Slot.unset).toArray = ls at hl ⊢
  have hl : lv_has ls 2 [(0, .int (zI (n))), (1, .int (zI (4)))] := hl
  refine lv_iload_n hx hb dX4_ways_0 rfl (lv_at hl 0 rfl) ?_
  refine vp_callSi (va_runS (As := [.int (zI (n))]) (rest := []) ⟨hx, hb, hml, hown, hts⟩ (c_X4_rootOf l n gn) (va_cwS 1 hts gX4_ways_X4_rootOf rfl rfl rfl (by decide +kernel) ⟨Nat.le_of_ble_eq_true rfl, Nat.le_of_ble_eq_true rfl⟩) ⟨fun a U g mk q => q, fun U hU hW => ⟨rfl, trivial⟩⟩ rfl rfl hl.1 rfl (lv_room (Nat.le_of_ble_eq_true rfl)) dX4_ways_1 ⟨Nat.le_of_ble_eq_true rfl, Nat.le_of_ble_eq_true rfl⟩).run (fun r hr1 => ?_)
  obtain rfl := hr1
  refine lv_iload_n hx hb dX4_ways_4 rfl (lv_at hl 0 rfl) ?_
  refine lv_iload_n hx hb dX4_ways_5 rfl (lv_at hl 1 rfl) ?_
  refine vp_callSi (va_runS (As := [.int (zI (((sqN (n) : Nat) : Int))), .int (zI (n)), .int (zI (4))]) (rest := []) ⟨hx, hb, hml, hown, hts⟩ (c_X4_waysUpTo_3 l n (sqN n) gn (sqN_le gn)) (va_cwS 3 hts gX4_ways_X4_waysUpTo rfl rfl rfl (by decide +kernel) ⟨Nat.le_of_ble_eq_true rfl, Nat.le_of_ble_eq_true rfl⟩) ⟨fun a U g mk q => q, fun U hU hW => ⟨rfl, trivial⟩⟩ rfl rfl hl.1 rfl (lv_room (Nat.le_of_ble_eq_true rfl)) dX4_ways_6 ⟨Nat.le_of_ble_eq_true rfl, Nat.le_of_ble_eq_true rfl⟩).run (fun r hr6 => ?_)
  obtain rfl := hr6
  exact W.iret (v := (zI (((wy 3 (n) (sqN (n)) : Nat) : Int)))) hx hb hr (fun tq ht hW => ⟨_, rfl, rfl, ht⟩) (fun q h => by cases h) dX4_ways_9

-- the check: ways(n, 1)
set_option maxHeartbeats 4000000 in
set_option maxRecDepth 100000 in
theorem c_X7_ways_0 (l : Launch) (n : Nat) (gn : n ≤ 1000000) : Met l yX7_ways wsX7_ways ({ frames := 1, cells := 0, slots := 0, locals := 22 }) (va_Pc [.int (zI (n)), .int (zI (1))] (fun _ => True)) (vp_Si (fun r => r = zI (wy 0 n (sqN n) : Int))) 0 0 (fun _ => False) := by
  refine Met.ofW (cc := cX7_ways) (maxL := 10) (ret := (some .int)) (by decide) rfl ?_
  intro p e s m args below meth c s₁ B hml hv
  obtain ⟨rfl, -⟩ := hv
  have hx := B.exec
  have hb := B.bytes
  have hr := B.returns
  have hts := atoms_spec (ws := wsX7_ways) B.pre
  have hown : s.vm.findClass RX7 = some m.cls := findClass_of_methodNamed B.named
  have hlocks := B.notSynchronized
  have hl := lv_entry ([.int (zI (n)), .int (zI (1))]) (n := 10) (Nat.le_of_ble_eq_true rfl)
  rw [lg_entry_eq]
  generalize (lg_sl ([.int (zI (n)), .int (zI (1))]) ++ List.replicate (10 - (lg_sl ([.int (zI (n)), .int (zI (1))])).length) Slot.unset).toArray = ls at hl ⊢
  have hl : lv_has ls 10 [(0, .int (zI (n))), (1, .int (zI (1)))] := hl
  have b0 := sqN_le gn
  have b1 := (sqN_spec n).1
  refine lv_iconst (v := zI 0) hx hb dX7_ways_0 rfl ?_
  refine lv_istore_n (lv' := [(2, .int (zI (0))), (0, .int (zI (n))), (1, .int (zI (1)))]) hx hb dX7_ways_1 rfl hl (by decide) rfl (fun ls hl => ?_)
  refine lv_iload_n hx hb dX7_ways_2 rfl (lv_at hl 1 rfl) ?_
  refine vp_callSi (va_runS (As := [.int (zI (n))]) (rest := []) ⟨hx, hb, hml, hown, hts⟩ (c_X7_rootOf l n gn) (va_cwS 1 hts gX7_ways_X7_rootOf rfl rfl rfl (by decide +kernel) ⟨Nat.le_of_ble_eq_true rfl, Nat.le_of_ble_eq_true rfl⟩) ⟨fun a U g mk q => q, fun U hU hW => ⟨rfl, trivial⟩⟩ rfl rfl hl.1 rfl (lv_room (Nat.le_of_ble_eq_true rfl)) dX7_ways_3 ⟨Nat.le_of_ble_eq_true rfl, Nat.le_of_ble_eq_true rfl⟩).run (fun r hr3 => ?_)
  obtain rfl := hr3
  refine lv_istore_n (lv' := [(3, .int (zI (((sqN (n) : Nat) : Int)))), (2, .int (zI (0))), (0, .int (zI (n))), (1, .int (zI (1)))]) hx hb dX7_ways_6 rfl hl (by decide) rfl (fun ls hl => ?_)
  refine lv_iload_n hx hb dX7_ways_7 rfl (lv_at hl 3 rfl) ?_
  refine lv_iconst (v := zI 1) hx hb dX7_ways_8 rfl ?_
  refine z_icmp_ne (tgt := 25) hx hb dX7_ways_9 (by decide) (by omega) (by omega) (fun c9 => ?_) (fun c9 => ?_)
  · exact absurd rfl c9
  · refine lv_iload_n hx hb dX7_ways_12 rfl (lv_at hl 0 rfl) ?_
    refine lv_iload_n hx hb dX7_ways_13 rfl (lv_at hl 0 rfl) ?_
    refine z_imul hx hb dX7_ways_14 ?_
    refine z_re (e2 := ((sqN n * sqN n : Nat) : Int)) (by rw [Int.natCast_mul]) ?_
    refine lv_iload_n hx hb dX7_ways_15 rfl (lv_at hl 2 rfl) ?_
    refine z_icmp_ne (tgt := 23) hx hb dX7_ways_16 (by decide) (by omega) (by omega) (fun c16 => ?_) (fun c16 => ?_)
    · refine lv_iconst (v := zI 0) hx hb dX7_ways_23 rfl ?_
      exact W.iret (v := (zI (0))) hx hb hr (fun tq ht hW => ⟨_, rfl, by rw [w1_n (fun z => by omega)]; rfl, ht⟩) (fun q h => by cases h) dX7_ways_24
    · refine lv_iconst (v := zI 1) hx hb dX7_ways_19 rfl ?_
      refine lv_goto (tgt := 24) hx hb dX7_ways_20 (by decide) ?_
      exact W.iret (v := (zI (1))) hx hb hr (fun tq ht hW => ⟨_, rfl, by rw [w1_y ⟨Nat.le_refl _, by omega⟩]; rfl, ht⟩) (fun q h => by cases h) dX7_ways_24

-- the check: ways(n, 2)
set_option maxHeartbeats 4000000 in
set_option maxRecDepth 100000 in
theorem c_X7_ways_1 (l : Launch) (n : Nat) (gn : n ≤ 1000000) : Met l yX7_ways wsX7_ways ({ frames := 1, cells := 0, slots := 0, locals := 22 }) (va_Pc [.int (zI (n)), .int (zI (2))] (fun _ => True)) (vp_Si (fun r => r = zI (wy 1 n (sqN n) : Int))) 0 0 (fun _ => False) := by
  refine Met.ofW (cc := cX7_ways) (maxL := 10) (ret := (some .int)) (by decide) rfl ?_
  intro p e s m args below meth c s₁ B hml hv
  obtain ⟨rfl, -⟩ := hv
  have hx := B.exec
  have hb := B.bytes
  have hr := B.returns
  have hts := atoms_spec (ws := wsX7_ways) B.pre
  have hown : s.vm.findClass RX7 = some m.cls := findClass_of_methodNamed B.named
  have hlocks := B.notSynchronized
  have hl := lv_entry ([.int (zI (n)), .int (zI (2))]) (n := 10) (Nat.le_of_ble_eq_true rfl)
  rw [lg_entry_eq]
  generalize (lg_sl ([.int (zI (n)), .int (zI (2))]) ++ List.replicate (10 - (lg_sl ([.int (zI (n)), .int (zI (2))])).length) Slot.unset).toArray = ls at hl ⊢
  have hl : lv_has ls 10 [(0, .int (zI (n))), (1, .int (zI (2)))] := hl
  have b0 := sqN_le gn
  refine lv_iconst (v := zI 0) hx hb dX7_ways_0 rfl ?_
  refine z_re (e2 := ((0 : Nat) : Int)) (rfl) ?_
  refine lv_istore_n (lv' := [(2, .int (zI (((0 : Nat) : Int)))), (0, .int (zI (n))), (1, .int (zI (2)))]) hx hb dX7_ways_1 rfl hl (by decide) rfl (fun ls hl => ?_)
  refine lv_iload_n hx hb dX7_ways_2 rfl (lv_at hl 1 rfl) ?_
  refine vp_callSi (va_runS (As := [.int (zI (n))]) (rest := []) ⟨hx, hb, hml, hown, hts⟩ (c_X7_rootOf l n gn) (va_cwS 1 hts gX7_ways_X7_rootOf rfl rfl rfl (by decide +kernel) ⟨Nat.le_of_ble_eq_true rfl, Nat.le_of_ble_eq_true rfl⟩) ⟨fun a U g mk q => q, fun U hU hW => ⟨rfl, trivial⟩⟩ rfl rfl hl.1 rfl (lv_room (Nat.le_of_ble_eq_true rfl)) dX7_ways_3 ⟨Nat.le_of_ble_eq_true rfl, Nat.le_of_ble_eq_true rfl⟩).run (fun r hr3 => ?_)
  obtain rfl := hr3
  refine z_re (e2 := ((sqN n + 1 : Nat) : Int) - 1) (by omega) ?_
  refine lv_istore_n (lv' := [(3, .int (zI (((sqN n + 1 : Nat) : Int) - 1))), (2, .int (zI (((0 : Nat) : Int)))), (0, .int (zI (n))), (1, .int (zI (2)))]) hx hb dX7_ways_6 rfl hl (by decide) rfl (fun ls hl => ?_)
  refine lv_iload_n hx hb dX7_ways_7 rfl (lv_at hl 3 rfl) ?_
  refine lv_iconst (v := zI 1) hx hb dX7_ways_8 rfl ?_
  refine z_icmp_ne (tgt := 25) hx hb dX7_ways_9 (by decide) (by omega) (by omega) (fun c9 => ?_) (fun c9 => ?_)
  · have lp25 : ∀ (NN : Nat) (b : Nat) (acc : Nat) (q1 : b ≤ sqN n + 1) (q3 : acc + sn (fun a => wy 0 (n - a * a) a) b = wy 1 n (sqN n)), b < NN → ∀ (ls : Array Slot), lv_has ls 10 [(0, .int (zI (n))), (1, .int (zI (2))), (2, .int (zI (acc))), (3, .int (zI ((b : Int) - 1)))] → W p l e (headSpec wsX7_ways ({ frames := 1, cells := 0, slots := 0, locals := 22 })).room s m ([.int (zI (n)), .int (zI (2))] : List Value).toArray below meth c s.heap [] 0 0 (MQ below (vp_Si (fun r => r = zI (wy 1 n (sqN n) : Int))) ([.int (zI (n)), .int (zI (2))] : List Value).toArray s 0 0 (fun _ => False)) (F0 m 25 ls []) := by
      intro NN
      induction NN with
      | zero =>
        intro b acc q1 q3 hmu
        exact absurd hmu (Nat.not_lt_zero _)
      | succ NN ih25 =>
        intro b acc q1 q3 hmu ls hl
        refine lv_iload_n hx hb dX7_ways_25 rfl (lv_at hl 3 rfl) ?_
        refine z_if_lt (tgt := 216) hx hb dX7_ways_26 (by decide) (by omega) (fun c26 => ?_) (fun c26 => ?_)
        · refine lv_iload_n hx hb dX7_ways_216 rfl (lv_at hl 2 rfl) ?_
          exact W.iret (v := (zI (acc))) hx hb hr (fun tq ht hW => ⟨_, rfl, by rw [← q3, show b = 0 by omega]; rfl, ht⟩) (fun q h => by cases h) dX7_ways_217
        · have hsq : (b - 1) * (b - 1) ≤ n := sq_of_le (by omega)
          have b1 := sqN_le (show n - (b - 1) * (b - 1) ≤ 1000000 by omega)
          have b2 : (min (sqN (n - (b - 1) * (b - 1))) (b - 1)) * (min (sqN (n - (b - 1) * (b - 1))) (b - 1)) ≤ 1000 * 1000 := Nat.mul_le_mul (by omega) (by omega)
          refine lv_iload_n hx hb dX7_ways_29 rfl (lv_at hl 0 rfl) ?_
          refine lv_iload_n hx hb dX7_ways_30 rfl (lv_at hl 3 rfl) ?_
          refine z_re (e2 := ((b - 1 : Nat) : Int)) (by omega) ?_
          refine lv_iload_n hx hb dX7_ways_31 rfl (lv_at hl 3 rfl) ?_
          refine z_re (e2 := ((b - 1 : Nat) : Int)) (by omega) ?_
          refine z_imul hx hb dX7_ways_32 ?_
          refine z_re (e2 := (((b - 1) * (b - 1) : Nat) : Int)) (by rw [Int.natCast_mul]) ?_
          refine z_isub hx hb dX7_ways_33 ?_
          refine z_re (e2 := ((n - (b - 1) * (b - 1) : Nat) : Int)) (by omega) ?_
          refine lv_istore (lv' := [(4, .int (zI (((n - (b - 1) * (b - 1) : Nat) : Int)))), (0, .int (zI (n))), (1, .int (zI (2))), (2, .int (zI (acc))), (3, .int (zI ((b : Int) - 1)))]) hx hb dX7_ways_34 hl (by decide) rfl (fun ls hl => ?_)
          refine lv_iload hx hb dX7_ways_36 (lv_at hl 0 rfl) ?_
          refine vp_callSi (va_runS (As := [.int (zI (((n - (b - 1) * (b - 1) : Nat) : Int)))]) (rest := []) ⟨hx, hb, hml, hown, hts⟩ (c_X7_rootOf l (n - (b - 1) * (b - 1)) (by omega)) (va_cwS 1 hts gX7_ways_X7_rootOf rfl rfl rfl (by decide +kernel) ⟨Nat.le_of_ble_eq_true rfl, Nat.le_of_ble_eq_true rfl⟩) ⟨fun a U g mk q => q, fun U hU hW => ⟨rfl, trivial⟩⟩ rfl rfl hl.1 rfl (lv_room (Nat.le_of_ble_eq_true rfl)) dX7_ways_38 ⟨Nat.le_of_ble_eq_true rfl, Nat.le_of_ble_eq_true rfl⟩).run (fun r hr38 => ?_)
          obtain rfl := hr38
          refine lv_istore (lv' := [(5, .int (zI (((sqN (n - (b - 1) * (b - 1)) : Nat) : Int)))), (4, .int (zI (((n - (b - 1) * (b - 1) : Nat) : Int)))), (0, .int (zI (n))), (1, .int (zI (2))), (2, .int (zI (acc))), (3, .int (zI ((b : Int) - 1)))]) hx hb dX7_ways_41 hl (by decide) rfl (fun ls hl => ?_)
          refine lv_iload hx hb dX7_ways_43 (lv_at hl 0 rfl) ?_
          refine lv_iload_n hx hb dX7_ways_45 rfl (lv_at hl 5 rfl) ?_
          refine z_re (e2 := ((b - 1 : Nat) : Int)) (by omega) ?_
          refine z_icmp_le (tgt := 53) hx hb dX7_ways_46 (by decide) (by omega) (by omega) (fun c46 => ?_) (fun c46 => ?_)
          · refine lv_iload hx hb dX7_ways_53 (lv_at hl 0 rfl) ?_
            refine z_re (e2 := ((min (sqN (n - (b - 1) * (b - 1))) (b - 1) : Nat) : Int)) (by omega) ?_
            refine lv_istore (lv' := [(5, .int (zI (((min (sqN (n - (b - 1) * (b - 1))) (b - 1) : Nat) : Int)))), (4, .int (zI (((n - (b - 1) * (b - 1) : Nat) : Int)))), (0, .int (zI (n))), (1, .int (zI (2))), (2, .int (zI (acc))), (3, .int (zI ((b : Int) - 1)))]) hx hb dX7_ways_55 hl (by decide) rfl (fun ls hl => ?_)
            refine lv_iload_n hx hb dX7_ways_57 rfl (lv_at hl 3 rfl) ?_
            refine lv_iconst (v := zI 2) hx hb dX7_ways_58 rfl ?_
            refine z_icmp_ne (tgt := 80) hx hb dX7_ways_59 (by decide) (by omega) (by omega) (fun c59 => ?_) (fun c59 => ?_)
            · exact absurd rfl c59
            · refine lv_iload_n hx hb dX7_ways_62 rfl (lv_at hl 4 rfl) ?_
              refine lv_iload hx hb dX7_ways_63 (lv_at hl 1 rfl) ?_
              refine lv_iload hx hb dX7_ways_65 (lv_at hl 0 rfl) ?_
              refine lv_iload hx hb dX7_ways_67 (lv_at hl 0 rfl) ?_
              refine z_imul hx hb dX7_ways_69 ?_
              refine z_re (e2 := (((min (sqN (n - (b - 1) * (b - 1))) (b - 1)) * (min (sqN (n - (b - 1) * (b - 1))) (b - 1)) : Nat) : Int)) (by rw [Int.natCast_mul]) ?_
              refine z_icmp_ne (tgt := 77) hx hb dX7_ways_70 (by decide) (by omega) (by omega) (fun c70 => ?_) (fun c70 => ?_)
              · refine lv_iconst (v := zI 0) hx hb dX7_ways_77 rfl ?_
                refine z_iadd hx hb dX7_ways_78 ?_
                refine z_re (e2 := ((acc + wy 0 (n - (b - 1) * (b - 1)) (b - 1) : Nat) : Int)) (by rw [w1_f (fun z => c70 (by rw [← z]))]; omega) ?_
                refine lv_istore_n (lv' := [(2, .int (zI (((acc + wy 0 (n - (b - 1) * (b - 1)) (b - 1) : Nat) : Int)))), (5, .int (zI (((min (sqN (n - (b - 1) * (b - 1))) (b - 1) : Nat) : Int)))), (4, .int (zI (((n - (b - 1) * (b - 1) : Nat) : Int)))), (0, .int (zI (n))), (1, .int (zI (2))), (3, .int (zI ((b : Int) - 1)))]) hx hb dX7_ways_79 rfl hl (by decide) rfl (fun ls hl => ?_)
                refine lv_iload hx hb dX7_ways_80 (lv_at hl 1 rfl) ?_
                refine z_if_lt (tgt := 210) hx hb dX7_ways_82 (by decide) (by omega) (fun c82 => ?_) (fun c82 => ?_)
                · exact absurd c82 (by omega)
                · refine lv_iload_n hx hb dX7_ways_85 rfl (lv_at hl 4 rfl) ?_
                  refine lv_iconst (v := zI 2) hx hb dX7_ways_86 rfl ?_
                  refine z_icmp_le (tgt := 210) hx hb dX7_ways_87 (by decide) (by omega) (by omega) (fun c87 => ?_) (fun c87 => ?_)
                  · refine lv_iinc (v := zI (((b - 1 : Nat) : Int) - 1)) (lv' := [(3, .int (zI (((b - 1 : Nat) : Int) - 1))), (2, .int (zI (((acc + wy 0 (n - (b - 1) * (b - 1)) (b - 1) : Nat) : Int)))), (5, .int (zI (((min (sqN (n - (b - 1) * (b - 1))) (b - 1) : Nat) : Int)))), (4, .int (zI (((n - (b - 1) * (b - 1) : Nat) : Int)))), (0, .int (zI (n))), (1, .int (zI (2)))]) hx hb dX7_ways_210 hl (k := 5) rfl (zI_incr (by omega)) (by decide) rfl (fun ls hl => ?_)
                    refine lv_goto (tgt := 25) hx hb dX7_ways_213 (by decide) ?_
                    exact ih25 (b - 1) (acc + wy 0 (n - (b - 1) * (b - 1)) (b - 1)) (by omega) (by have z := sn_p (fun a => wy 0 (n - a * a) a) (show 0 < b by omega); omega) (by omega) _ (lv_sub hl [4, 5, 1, 0] rfl)
                  · exact absurd c87 (by omega)
              · refine lv_iconst (v := zI 1) hx hb dX7_ways_73 rfl ?_
                refine lv_goto (tgt := 78) hx hb dX7_ways_74 (by decide) ?_
                refine z_iadd hx hb dX7_ways_78 ?_
                refine z_re (e2 := ((acc + wy 0 (n - (b - 1) * (b - 1)) (b - 1) : Nat) : Int)) (by rw [w1_t (Int.ofNat.inj c70)]; omega) ?_
                refine lv_istore_n (lv' := [(2, .int (zI (((acc + wy 0 (n - (b - 1) * (b - 1)) (b - 1) : Nat) : Int)))), (5, .int (zI (((min (sqN (n - (b - 1) * (b - 1))) (b - 1) : Nat) : Int)))), (4, .int (zI (((n - (b - 1) * (b - 1) : Nat) : Int)))), (0, .int (zI (n))), (1, .int (zI (2))), (3, .int (zI ((b : Int) - 1)))]) hx hb dX7_ways_79 rfl hl (by decide) rfl (fun ls hl => ?_)
                refine lv_iload hx hb dX7_ways_80 (lv_at hl 1 rfl) ?_
                refine z_if_lt (tgt := 210) hx hb dX7_ways_82 (by decide) (by omega) (fun c82 => ?_) (fun c82 => ?_)
                · exact absurd c82 (by omega)
                · refine lv_iload_n hx hb dX7_ways_85 rfl (lv_at hl 4 rfl) ?_
                  refine lv_iconst (v := zI 2) hx hb dX7_ways_86 rfl ?_
                  refine z_icmp_le (tgt := 210) hx hb dX7_ways_87 (by decide) (by omega) (by omega) (fun c87 => ?_) (fun c87 => ?_)
                  · refine lv_iinc (v := zI (((b - 1 : Nat) : Int) - 1)) (lv' := [(3, .int (zI (((b - 1 : Nat) : Int) - 1))), (2, .int (zI (((acc + wy 0 (n - (b - 1) * (b - 1)) (b - 1) : Nat) : Int)))), (5, .int (zI (((min (sqN (n - (b - 1) * (b - 1))) (b - 1) : Nat) : Int)))), (4, .int (zI (((n - (b - 1) * (b - 1) : Nat) : Int)))), (0, .int (zI (n))), (1, .int (zI (2)))]) hx hb dX7_ways_210 hl (k := 5) rfl (zI_incr (by omega)) (by decide) rfl (fun ls hl => ?_)
                    refine lv_goto (tgt := 25) hx hb dX7_ways_213 (by decide) ?_
                    exact ih25 (b - 1) (acc + wy 0 (n - (b - 1) * (b - 1)) (b - 1)) (by omega) (by have z := sn_p (fun a => wy 0 (n - a * a) a) (show 0 < b by omega); omega) (by omega) _ (lv_sub hl [4, 5, 1, 0] rfl)
                  · exact absurd c87 (by omega)
          · refine lv_iload_n hx hb dX7_ways_49 rfl (lv_at hl 5 rfl) ?_
            refine z_re (e2 := ((min (sqN (n - (b - 1) * (b - 1))) (b - 1) : Nat) : Int)) (by omega) ?_
            refine lv_goto (tgt := 55) hx hb dX7_ways_50 (by decide) ?_
            refine lv_istore (lv' := [(5, .int (zI (((min (sqN (n - (b - 1) * (b - 1))) (b - 1) : Nat) : Int)))), (4, .int (zI (((n - (b - 1) * (b - 1) : Nat) : Int)))), (0, .int (zI (n))), (1, .int (zI (2))), (2, .int (zI (acc))), (3, .int (zI ((b : Int) - 1)))]) hx hb dX7_ways_55 hl (by decide) rfl (fun ls hl => ?_)
            refine lv_iload_n hx hb dX7_ways_57 rfl (lv_at hl 3 rfl) ?_
            refine lv_iconst (v := zI 2) hx hb dX7_ways_58 rfl ?_
            refine z_icmp_ne (tgt := 80) hx hb dX7_ways_59 (by decide) (by omega) (by omega) (fun c59 => ?_) (fun c59 => ?_)
            · exact absurd rfl c59
            · refine lv_iload_n hx hb dX7_ways_62 rfl (lv_at hl 4 rfl) ?_
              refine lv_iload hx hb dX7_ways_63 (lv_at hl 1 rfl) ?_
              refine lv_iload hx hb dX7_ways_65 (lv_at hl 0 rfl) ?_
              refine lv_iload hx hb dX7_ways_67 (lv_at hl 0 rfl) ?_
              refine z_imul hx hb dX7_ways_69 ?_
              refine z_re (e2 := (((min (sqN (n - (b - 1) * (b - 1))) (b - 1)) * (min (sqN (n - (b - 1) * (b - 1))) (b - 1)) : Nat) : Int)) (by rw [Int.natCast_mul]) ?_
              refine z_icmp_ne (tgt := 77) hx hb dX7_ways_70 (by decide) (by omega) (by omega) (fun c70 => ?_) (fun c70 => ?_)
              · refine lv_iconst (v := zI 0) hx hb dX7_ways_77 rfl ?_
                refine z_iadd hx hb dX7_ways_78 ?_
                refine z_re (e2 := ((acc + wy 0 (n - (b - 1) * (b - 1)) (b - 1) : Nat) : Int)) (by rw [w1_f (fun z => c70 (by rw [← z]))]; omega) ?_
                refine lv_istore_n (lv' := [(2, .int (zI (((acc + wy 0 (n - (b - 1) * (b - 1)) (b - 1) : Nat) : Int)))), (5, .int (zI (((min (sqN (n - (b - 1) * (b - 1))) (b - 1) : Nat) : Int)))), (4, .int (zI (((n - (b - 1) * (b - 1) : Nat) : Int)))), (0, .int (zI (n))), (1, .int (zI (2))), (3, .int (zI ((b : Int) - 1)))]) hx hb dX7_ways_79 rfl hl (by decide) rfl (fun ls hl => ?_)
                refine lv_iload hx hb dX7_ways_80 (lv_at hl 1 rfl) ?_
                refine z_if_lt (tgt := 210) hx hb dX7_ways_82 (by decide) (by omega) (fun c82 => ?_) (fun c82 => ?_)
                · exact absurd c82 (by omega)
                · refine lv_iload_n hx hb dX7_ways_85 rfl (lv_at hl 4 rfl) ?_
                  refine lv_iconst (v := zI 2) hx hb dX7_ways_86 rfl ?_
                  refine z_icmp_le (tgt := 210) hx hb dX7_ways_87 (by decide) (by omega) (by omega) (fun c87 => ?_) (fun c87 => ?_)
                  · refine lv_iinc (v := zI (((b - 1 : Nat) : Int) - 1)) (lv' := [(3, .int (zI (((b - 1 : Nat) : Int) - 1))), (2, .int (zI (((acc + wy 0 (n - (b - 1) * (b - 1)) (b - 1) : Nat) : Int)))), (5, .int (zI (((min (sqN (n - (b - 1) * (b - 1))) (b - 1) : Nat) : Int)))), (4, .int (zI (((n - (b - 1) * (b - 1) : Nat) : Int)))), (0, .int (zI (n))), (1, .int (zI (2)))]) hx hb dX7_ways_210 hl (k := 5) rfl (zI_incr (by omega)) (by decide) rfl (fun ls hl => ?_)
                    refine lv_goto (tgt := 25) hx hb dX7_ways_213 (by decide) ?_
                    exact ih25 (b - 1) (acc + wy 0 (n - (b - 1) * (b - 1)) (b - 1)) (by omega) (by have z := sn_p (fun a => wy 0 (n - a * a) a) (show 0 < b by omega); omega) (by omega) _ (lv_sub hl [4, 5, 1, 0] rfl)
                  · exact absurd c87 (by omega)
              · refine lv_iconst (v := zI 1) hx hb dX7_ways_73 rfl ?_
                refine lv_goto (tgt := 78) hx hb dX7_ways_74 (by decide) ?_
                refine z_iadd hx hb dX7_ways_78 ?_
                refine z_re (e2 := ((acc + wy 0 (n - (b - 1) * (b - 1)) (b - 1) : Nat) : Int)) (by rw [w1_t (Int.ofNat.inj c70)]; omega) ?_
                refine lv_istore_n (lv' := [(2, .int (zI (((acc + wy 0 (n - (b - 1) * (b - 1)) (b - 1) : Nat) : Int)))), (5, .int (zI (((min (sqN (n - (b - 1) * (b - 1))) (b - 1) : Nat) : Int)))), (4, .int (zI (((n - (b - 1) * (b - 1) : Nat) : Int)))), (0, .int (zI (n))), (1, .int (zI (2))), (3, .int (zI ((b : Int) - 1)))]) hx hb dX7_ways_79 rfl hl (by decide) rfl (fun ls hl => ?_)
                refine lv_iload hx hb dX7_ways_80 (lv_at hl 1 rfl) ?_
                refine z_if_lt (tgt := 210) hx hb dX7_ways_82 (by decide) (by omega) (fun c82 => ?_) (fun c82 => ?_)
                · exact absurd c82 (by omega)
                · refine lv_iload_n hx hb dX7_ways_85 rfl (lv_at hl 4 rfl) ?_
                  refine lv_iconst (v := zI 2) hx hb dX7_ways_86 rfl ?_
                  refine z_icmp_le (tgt := 210) hx hb dX7_ways_87 (by decide) (by omega) (by omega) (fun c87 => ?_) (fun c87 => ?_)
                  · refine lv_iinc (v := zI (((b - 1 : Nat) : Int) - 1)) (lv' := [(3, .int (zI (((b - 1 : Nat) : Int) - 1))), (2, .int (zI (((acc + wy 0 (n - (b - 1) * (b - 1)) (b - 1) : Nat) : Int)))), (5, .int (zI (((min (sqN (n - (b - 1) * (b - 1))) (b - 1) : Nat) : Int)))), (4, .int (zI (((n - (b - 1) * (b - 1) : Nat) : Int)))), (0, .int (zI (n))), (1, .int (zI (2)))]) hx hb dX7_ways_210 hl (k := 5) rfl (zI_incr (by omega)) (by decide) rfl (fun ls hl => ?_)
                    refine lv_goto (tgt := 25) hx hb dX7_ways_213 (by decide) ?_
                    exact ih25 (b - 1) (acc + wy 0 (n - (b - 1) * (b - 1)) (b - 1)) (by omega) (by have z := sn_p (fun a => wy 0 (n - a * a) a) (show 0 < b by omega); omega) (by omega) _ (lv_sub hl [4, 5, 1, 0] rfl)
                  · exact absurd c87 (by omega)
    exact lp25 _ (sqN n + 1) (0) (by omega) (by rw [wy_s, Nat.min_self]; omega) (Nat.lt_succ_self _) _ (lv_sub hl [2, 3, 1, 0] rfl)
  · exact absurd c9 (by omega)

-- the check: ways(n, 3)
set_option maxHeartbeats 4000000 in
set_option maxRecDepth 100000 in
theorem c_X7_ways_2 (l : Launch) (n : Nat) (gn : n ≤ 1000000) : Met l yX7_ways wsX7_ways ({ frames := 1, cells := 0, slots := 0, locals := 22 }) (va_Pc [.int (zI (n)), .int (zI (3))] (fun _ => True)) (vp_Si (fun r => r = zI (wy 2 n (sqN n) : Int))) 0 0 (fun _ => False) := by
  refine Met.ofW (cc := cX7_ways) (maxL := 10) (ret := (some .int)) (by decide) rfl ?_
  intro p e s m args below meth c s₁ B hml hv
  obtain ⟨rfl, -⟩ := hv
  have hx := B.exec
  have hb := B.bytes
  have hr := B.returns
  have hts := atoms_spec (ws := wsX7_ways) B.pre
  have hown : s.vm.findClass RX7 = some m.cls := findClass_of_methodNamed B.named
  have hlocks := B.notSynchronized
  have hl := lv_entry ([.int (zI (n)), .int (zI (3))]) (n := 10) (Nat.le_of_ble_eq_true rfl)
  rw [lg_entry_eq]
  generalize (lg_sl ([.int (zI (n)), .int (zI (3))]) ++ List.replicate (10 - (lg_sl ([.int (zI (n)), .int (zI (3))])).length) Slot.unset).toArray = ls at hl ⊢
  have hl : lv_has ls 10 [(0, .int (zI (n))), (1, .int (zI (3)))] := hl
  have b0 := sqN_le gn
  refine lv_iconst (v := zI 0) hx hb dX7_ways_0 rfl ?_
  refine z_re (e2 := ((0 : Nat) : Int)) (rfl) ?_
  refine lv_istore_n (lv' := [(2, .int (zI (((0 : Nat) : Int)))), (0, .int (zI (n))), (1, .int (zI (3)))]) hx hb dX7_ways_1 rfl hl (by decide) rfl (fun ls hl => ?_)
  refine lv_iload_n hx hb dX7_ways_2 rfl (lv_at hl 1 rfl) ?_
  refine vp_callSi (va_runS (As := [.int (zI (n))]) (rest := []) ⟨hx, hb, hml, hown, hts⟩ (c_X7_rootOf l n gn) (va_cwS 1 hts gX7_ways_X7_rootOf rfl rfl rfl (by decide +kernel) ⟨Nat.le_of_ble_eq_true rfl, Nat.le_of_ble_eq_true rfl⟩) ⟨fun a U g mk q => q, fun U hU hW => ⟨rfl, trivial⟩⟩ rfl rfl hl.1 rfl (lv_room (Nat.le_of_ble_eq_true rfl)) dX7_ways_3 ⟨Nat.le_of_ble_eq_true rfl, Nat.le_of_ble_eq_true rfl⟩).run (fun r hr3 => ?_)
  obtain rfl := hr3
  refine z_re (e2 := ((sqN n + 1 : Nat) : Int) - 1) (by omega) ?_
  refine lv_istore_n (lv' := [(3, .int (zI (((sqN n + 1 : Nat) : Int) - 1))), (2, .int (zI (((0 : Nat) : Int)))), (0, .int (zI (n))), (1, .int (zI (3)))]) hx hb dX7_ways_6 rfl hl (by decide) rfl (fun ls hl => ?_)
  refine lv_iload_n hx hb dX7_ways_7 rfl (lv_at hl 3 rfl) ?_
  refine lv_iconst (v := zI 1) hx hb dX7_ways_8 rfl ?_
  refine z_icmp_ne (tgt := 25) hx hb dX7_ways_9 (by decide) (by omega) (by omega) (fun c9 => ?_) (fun c9 => ?_)
  · have lp25 : ∀ (NN : Nat) (b : Nat) (acc : Nat) (q1 : b ≤ sqN n + 1) (q3 : acc + sn (fun a => wy 1 (n - a * a) a) b = wy 2 n (sqN n)), b < NN → ∀ (ls : Array Slot), lv_has ls 10 [(0, .int (zI (n))), (1, .int (zI (3))), (2, .int (zI (acc))), (3, .int (zI ((b : Int) - 1)))] → W p l e (headSpec wsX7_ways ({ frames := 1, cells := 0, slots := 0, locals := 22 })).room s m ([.int (zI (n)), .int (zI (3))] : List Value).toArray below meth c s.heap [] 0 0 (MQ below (vp_Si (fun r => r = zI (wy 2 n (sqN n) : Int))) ([.int (zI (n)), .int (zI (3))] : List Value).toArray s 0 0 (fun _ => False)) (F0 m 25 ls []) := by
      intro NN
      induction NN with
      | zero =>
        intro b acc q1 q3 hmu
        exact absurd hmu (Nat.not_lt_zero _)
      | succ NN ih25 =>
        intro b acc q1 q3 hmu ls hl
        refine lv_iload_n hx hb dX7_ways_25 rfl (lv_at hl 3 rfl) ?_
        refine z_if_lt (tgt := 216) hx hb dX7_ways_26 (by decide) (by omega) (fun c26 => ?_) (fun c26 => ?_)
        · refine lv_iload_n hx hb dX7_ways_216 rfl (lv_at hl 2 rfl) ?_
          exact W.iret (v := (zI (acc))) hx hb hr (fun tq ht hW => ⟨_, rfl, by rw [← q3, show b = 0 by omega]; rfl, ht⟩) (fun q h => by cases h) dX7_ways_217
        · have hsq : (b - 1) * (b - 1) ≤ n := sq_of_le (by omega)
          have b1 := sqN_le (show n - (b - 1) * (b - 1) ≤ 1000000 by omega)
          refine lv_iload_n hx hb dX7_ways_29 rfl (lv_at hl 0 rfl) ?_
          refine lv_iload_n hx hb dX7_ways_30 rfl (lv_at hl 3 rfl) ?_
          refine z_re (e2 := ((b - 1 : Nat) : Int)) (by omega) ?_
          refine lv_iload_n hx hb dX7_ways_31 rfl (lv_at hl 3 rfl) ?_
          refine z_re (e2 := ((b - 1 : Nat) : Int)) (by omega) ?_
          refine z_imul hx hb dX7_ways_32 ?_
          refine z_re (e2 := (((b - 1) * (b - 1) : Nat) : Int)) (by rw [Int.natCast_mul]) ?_
          refine z_isub hx hb dX7_ways_33 ?_
          refine z_re (e2 := ((n - (b - 1) * (b - 1) : Nat) : Int)) (by omega) ?_
          refine lv_istore (lv' := [(4, .int (zI (((n - (b - 1) * (b - 1) : Nat) : Int)))), (0, .int (zI (n))), (1, .int (zI (3))), (2, .int (zI (acc))), (3, .int (zI ((b : Int) - 1)))]) hx hb dX7_ways_34 hl (by decide) rfl (fun ls hl => ?_)
          refine lv_iload hx hb dX7_ways_36 (lv_at hl 0 rfl) ?_
          refine vp_callSi (va_runS (As := [.int (zI (((n - (b - 1) * (b - 1) : Nat) : Int)))]) (rest := []) ⟨hx, hb, hml, hown, hts⟩ (c_X7_rootOf l (n - (b - 1) * (b - 1)) (by omega)) (va_cwS 1 hts gX7_ways_X7_rootOf rfl rfl rfl (by decide +kernel) ⟨Nat.le_of_ble_eq_true rfl, Nat.le_of_ble_eq_true rfl⟩) ⟨fun a U g mk q => q, fun U hU hW => ⟨rfl, trivial⟩⟩ rfl rfl hl.1 rfl (lv_room (Nat.le_of_ble_eq_true rfl)) dX7_ways_38 ⟨Nat.le_of_ble_eq_true rfl, Nat.le_of_ble_eq_true rfl⟩).run (fun r hr38 => ?_)
          obtain rfl := hr38
          refine lv_istore (lv' := [(5, .int (zI (((sqN (n - (b - 1) * (b - 1)) : Nat) : Int)))), (4, .int (zI (((n - (b - 1) * (b - 1) : Nat) : Int)))), (0, .int (zI (n))), (1, .int (zI (3))), (2, .int (zI (acc))), (3, .int (zI ((b : Int) - 1)))]) hx hb dX7_ways_41 hl (by decide) rfl (fun ls hl => ?_)
          refine lv_iload hx hb dX7_ways_43 (lv_at hl 0 rfl) ?_
          refine lv_iload_n hx hb dX7_ways_45 rfl (lv_at hl 5 rfl) ?_
          refine z_re (e2 := ((b - 1 : Nat) : Int)) (by omega) ?_
          refine z_icmp_le (tgt := 53) hx hb dX7_ways_46 (by decide) (by omega) (by omega) (fun c46 => ?_) (fun c46 => ?_)
          · refine lv_iload hx hb dX7_ways_53 (lv_at hl 0 rfl) ?_
            refine z_re (e2 := ((min (sqN (n - (b - 1) * (b - 1))) (b - 1) + 1 : Nat) : Int) - 1) (by omega) ?_
            refine lv_istore (lv' := [(5, .int (zI (((min (sqN (n - (b - 1) * (b - 1))) (b - 1) + 1 : Nat) : Int) - 1))), (4, .int (zI (((n - (b - 1) * (b - 1) : Nat) : Int)))), (0, .int (zI (n))), (1, .int (zI (3))), (2, .int (zI (acc))), (3, .int (zI ((b : Int) - 1)))]) hx hb dX7_ways_55 hl (by decide) rfl (fun ls hl => ?_)
            refine lv_iload_n hx hb dX7_ways_57 rfl (lv_at hl 3 rfl) ?_
            refine lv_iconst (v := zI 2) hx hb dX7_ways_58 rfl ?_
            refine z_icmp_ne (tgt := 80) hx hb dX7_ways_59 (by decide) (by omega) (by omega) (fun c59 => ?_) (fun c59 => ?_)
            · have lp80 : ∀ (NN : Nat) (b2 : Nat) (acc2 : Nat) (q4 : b2 ≤ min (sqN (n - (b - 1) * (b - 1))) (b - 1) + 1) (q5 : acc2 + sn (fun a => wy 0 (n - (b - 1) * (b - 1) - a * a) a) b2 = acc + wy 1 (n - (b - 1) * (b - 1)) (b - 1)), b2 < NN → ∀ (ls : Array Slot), lv_has ls 10 [(0, .int (zI (n))), (1, .int (zI (3))), (2, .int (zI (acc2))), (3, .int (zI ((b : Int) - 1))), (4, .int (zI (((n - (b - 1) * (b - 1) : Nat) : Int)))), (5, .int (zI ((b2 : Int) - 1)))] → W p l e (headSpec wsX7_ways ({ frames := 1, cells := 0, slots := 0, locals := 22 })).room s m ([.int (zI (n)), .int (zI (3))] : List Value).toArray below meth c s.heap [] 0 0 (MQ below (vp_Si (fun r => r = zI (wy 2 n (sqN n) : Int))) ([.int (zI (n)), .int (zI (3))] : List Value).toArray s 0 0 (fun _ => False)) (F0 m 80 ls []) := by
                intro NN
                induction NN with
                | zero =>
                  intro b2 acc2 q4 q5 hmu
                  exact absurd hmu (Nat.not_lt_zero _)
                | succ NN ih80 =>
                  intro b2 acc2 q4 q5 hmu ls hl
                  refine lv_iload hx hb dX7_ways_80 (lv_at hl 5 rfl) ?_
                  refine z_if_lt (tgt := 210) hx hb dX7_ways_82 (by decide) (by omega) (fun c82 => ?_) (fun c82 => ?_)
                  · refine lv_iinc (v := zI (((b - 1 : Nat) : Int) - 1)) (lv' := [(3, .int (zI (((b - 1 : Nat) : Int) - 1))), (0, .int (zI (n))), (1, .int (zI (3))), (2, .int (zI (acc2))), (4, .int (zI (((n - (b - 1) * (b - 1) : Nat) : Int)))), (5, .int (zI ((b2 : Int) - 1)))]) hx hb dX7_ways_210 hl (k := 3) rfl (zI_incr (by omega)) (by decide) rfl (fun ls hl => ?_)
                    refine lv_goto (tgt := 25) hx hb dX7_ways_213 (by decide) ?_
                    exact ih25 (b - 1) (acc2) (by omega) (by have z := sn_p (fun a => wy 1 (n - a * a) a) (show 0 < b by omega); have z2 : sn (fun a => wy 0 (n - (b - 1) * (b - 1) - a * a) a) b2 = 0 := sn_0 _ (by omega); omega) (by omega) _ (lv_sub hl [1, 2, 3, 0] rfl)
                  · have hs2 : (b2 - 1) * (b2 - 1) ≤ n - (b - 1) * (b - 1) := sq_of_le (by omega)
                    have b3 := sqN_le (show n - (b - 1) * (b - 1) - (b2 - 1) * (b2 - 1) ≤ 1000000 by omega)
                    have b4 : (min (sqN (n - (b - 1) * (b - 1) - (b2 - 1) * (b2 - 1))) (b2 - 1)) * (min (sqN (n - (b - 1) * (b - 1) - (b2 - 1) * (b2 - 1))) (b2 - 1)) ≤ 1000 * 1000 := Nat.mul_le_mul (by omega) (by omega)
                    refine lv_iload_n hx hb dX7_ways_85 rfl (lv_at hl 1 rfl) ?_
                    refine lv_iconst (v := zI 2) hx hb dX7_ways_86 rfl ?_
                    refine z_icmp_le (tgt := 210) hx hb dX7_ways_87 (by decide) (by omega) (by omega) (fun c87 => ?_) (fun c87 => ?_)
                    · exact absurd c87 (by omega)
                    · refine lv_iload hx hb dX7_ways_90 (lv_at hl 4 rfl) ?_
                      refine lv_iload hx hb dX7_ways_92 (lv_at hl 5 rfl) ?_
                      refine z_re (e2 := ((b2 - 1 : Nat) : Int)) (by omega) ?_
                      refine lv_iload hx hb dX7_ways_94 (lv_at hl 5 rfl) ?_
                      refine z_re (e2 := ((b2 - 1 : Nat) : Int)) (by omega) ?_
                      refine z_imul hx hb dX7_ways_96 ?_
                      refine z_re (e2 := (((b2 - 1) * (b2 - 1) : Nat) : Int)) (by rw [Int.natCast_mul]) ?_
                      refine z_isub hx hb dX7_ways_97 ?_
                      refine z_re (e2 := ((n - (b - 1) * (b - 1) - (b2 - 1) * (b2 - 1) : Nat) : Int)) (by omega) ?_
                      refine lv_istore (lv' := [(6, .int (zI (((n - (b - 1) * (b - 1) - (b2 - 1) * (b2 - 1) : Nat) : Int)))), (0, .int (zI (n))), (1, .int (zI (3))), (2, .int (zI (acc2))), (3, .int (zI ((b : Int) - 1))), (4, .int (zI (((n - (b - 1) * (b - 1) : Nat) : Int)))), (5, .int (zI ((b2 : Int) - 1)))]) hx hb dX7_ways_98 hl (by decide) rfl (fun ls hl => ?_)
                      refine lv_iload hx hb dX7_ways_100 (lv_at hl 0 rfl) ?_
                      refine vp_callSi (va_runS (As := [.int (zI (((n - (b - 1) * (b - 1) - (b2 - 1) * (b2 - 1) : Nat) : Int)))]) (rest := []) ⟨hx, hb, hml, hown, hts⟩ (c_X7_rootOf l (n - (b - 1) * (b - 1) - (b2 - 1) * (b2 - 1)) (by omega)) (va_cwS 1 hts gX7_ways_X7_rootOf rfl rfl rfl (by decide +kernel) ⟨Nat.le_of_ble_eq_true rfl, Nat.le_of_ble_eq_true rfl⟩) ⟨fun a U g mk q => q, fun U hU hW => ⟨rfl, trivial⟩⟩ rfl rfl hl.1 rfl (lv_room (Nat.le_of_ble_eq_true rfl)) dX7_ways_102 ⟨Nat.le_of_ble_eq_true rfl, Nat.le_of_ble_eq_true rfl⟩).run (fun r hr102 => ?_)
                      obtain rfl := hr102
                      refine lv_istore (lv' := [(7, .int (zI (((sqN (n - (b - 1) * (b - 1) - (b2 - 1) * (b2 - 1)) : Nat) : Int)))), (6, .int (zI (((n - (b - 1) * (b - 1) - (b2 - 1) * (b2 - 1) : Nat) : Int)))), (0, .int (zI (n))), (1, .int (zI (3))), (2, .int (zI (acc2))), (3, .int (zI ((b : Int) - 1))), (4, .int (zI (((n - (b - 1) * (b - 1) : Nat) : Int)))), (5, .int (zI ((b2 : Int) - 1)))]) hx hb dX7_ways_105 hl (by decide) rfl (fun ls hl => ?_)
                      refine lv_iload hx hb dX7_ways_107 (lv_at hl 0 rfl) ?_
                      refine lv_iload hx hb dX7_ways_109 (lv_at hl 7 rfl) ?_
                      refine z_re (e2 := ((b2 - 1 : Nat) : Int)) (by omega) ?_
                      refine z_icmp_le (tgt := 119) hx hb dX7_ways_111 (by decide) (by omega) (by omega) (fun c111 => ?_) (fun c111 => ?_)
                      · refine lv_iload hx hb dX7_ways_119 (lv_at hl 0 rfl) ?_
                        refine z_re (e2 := ((min (sqN (n - (b - 1) * (b - 1) - (b2 - 1) * (b2 - 1))) (b2 - 1) : Nat) : Int)) (by omega) ?_
                        refine lv_istore (lv' := [(7, .int (zI (((min (sqN (n - (b - 1) * (b - 1) - (b2 - 1) * (b2 - 1))) (b2 - 1) : Nat) : Int)))), (6, .int (zI (((n - (b - 1) * (b - 1) - (b2 - 1) * (b2 - 1) : Nat) : Int)))), (0, .int (zI (n))), (1, .int (zI (3))), (2, .int (zI (acc2))), (3, .int (zI ((b : Int) - 1))), (4, .int (zI (((n - (b - 1) * (b - 1) : Nat) : Int)))), (5, .int (zI ((b2 : Int) - 1)))]) hx hb dX7_ways_121 hl (by decide) rfl (fun ls hl => ?_)
                        refine lv_iload_n hx hb dX7_ways_123 rfl (lv_at hl 3 rfl) ?_
                        refine lv_iconst (v := zI 3) hx hb dX7_ways_124 rfl ?_
                        refine z_icmp_ne (tgt := 146) hx hb dX7_ways_125 (by decide) (by omega) (by omega) (fun c125 => ?_) (fun c125 => ?_)
                        · exact absurd rfl c125
                        · refine lv_iload_n hx hb dX7_ways_128 rfl (lv_at hl 4 rfl) ?_
                          refine lv_iload hx hb dX7_ways_129 (lv_at hl 1 rfl) ?_
                          refine lv_iload hx hb dX7_ways_131 (lv_at hl 0 rfl) ?_
                          refine lv_iload hx hb dX7_ways_133 (lv_at hl 0 rfl) ?_
                          refine z_imul hx hb dX7_ways_135 ?_
                          refine z_re (e2 := (((min (sqN (n - (b - 1) * (b - 1) - (b2 - 1) * (b2 - 1))) (b2 - 1)) * (min (sqN (n - (b - 1) * (b - 1) - (b2 - 1) * (b2 - 1))) (b2 - 1)) : Nat) : Int)) (by rw [Int.natCast_mul]) ?_
                          refine z_icmp_ne (tgt := 143) hx hb dX7_ways_136 (by decide) (by omega) (by omega) (fun c136 => ?_) (fun c136 => ?_)
                          · refine lv_iconst (v := zI 0) hx hb dX7_ways_143 rfl ?_
                            refine z_iadd hx hb dX7_ways_144 ?_
                            refine z_re (e2 := ((acc2 + wy 0 (n - (b - 1) * (b - 1) - (b2 - 1) * (b2 - 1)) (b2 - 1) : Nat) : Int)) (by rw [w1_f (fun z => c136 (by rw [← z]))]; omega) ?_
                            refine lv_istore_n (lv' := [(2, .int (zI (((acc2 + wy 0 (n - (b - 1) * (b - 1) - (b2 - 1) * (b2 - 1)) (b2 - 1) : Nat) : Int)))), (7, .int (zI (((min (sqN (n - (b - 1) * (b - 1) - (b2 - 1) * (b2 - 1))) (b2 - 1) : Nat) : Int)))), (6, .int (zI (((n - (b - 1) * (b - 1) - (b2 - 1) * (b2 - 1) : Nat) : Int)))), (0, .int (zI (n))), (1, .int (zI (3))), (3, .int (zI ((b : Int) - 1))), (4, .int (zI (((n - (b - 1) * (b - 1) : Nat) : Int)))), (5, .int (zI ((b2 : Int) - 1)))]) hx hb dX7_ways_145 rfl hl (by decide) rfl (fun ls hl => ?_)
                            refine lv_iload hx hb dX7_ways_146 (lv_at hl 1 rfl) ?_
                            refine z_if_lt (tgt := 204) hx hb dX7_ways_148 (by decide) (by omega) (fun c148 => ?_) (fun c148 => ?_)
                            · exact absurd c148 (by omega)
                            · refine lv_iload_n hx hb dX7_ways_151 rfl (lv_at hl 4 rfl) ?_
                              refine lv_iconst (v := zI 3) hx hb dX7_ways_152 rfl ?_
                              refine z_icmp_le (tgt := 204) hx hb dX7_ways_153 (by decide) (by omega) (by omega) (fun c153 => ?_) (fun c153 => ?_)
                              · refine lv_iinc (v := zI (((b2 - 1 : Nat) : Int) - 1)) (lv' := [(5, .int (zI (((b2 - 1 : Nat) : Int) - 1))), (2, .int (zI (((acc2 + wy 0 (n - (b - 1) * (b - 1) - (b2 - 1) * (b2 - 1)) (b2 - 1) : Nat) : Int)))), (7, .int (zI (((min (sqN (n - (b - 1) * (b - 1) - (b2 - 1) * (b2 - 1))) (b2 - 1) : Nat) : Int)))), (6, .int (zI (((n - (b - 1) * (b - 1) - (b2 - 1) * (b2 - 1) : Nat) : Int)))), (0, .int (zI (n))), (1, .int (zI (3))), (3, .int (zI ((b : Int) - 1))), (4, .int (zI (((n - (b - 1) * (b - 1) : Nat) : Int))))]) hx hb dX7_ways_204 hl (k := 7) rfl (zI_incr (by omega)) (by decide) rfl (fun ls hl => ?_)
                                refine lv_goto (tgt := 80) hx hb dX7_ways_207 (by decide) ?_
                                exact ih80 (b2 - 1) (acc2 + wy 0 (n - (b - 1) * (b - 1) - (b2 - 1) * (b2 - 1)) (b2 - 1)) (by omega) (by have z := sn_p (fun a => wy 0 (n - (b - 1) * (b - 1) - a * a) a) (show 0 < b2 by omega); omega) (by omega) _ (lv_sub hl [4, 5, 1, 6, 7, 0] rfl)
                              · exact absurd c153 (by omega)
                          · refine lv_iconst (v := zI 1) hx hb dX7_ways_139 rfl ?_
                            refine lv_goto (tgt := 144) hx hb dX7_ways_140 (by decide) ?_
                            refine z_iadd hx hb dX7_ways_144 ?_
                            refine z_re (e2 := ((acc2 + wy 0 (n - (b - 1) * (b - 1) - (b2 - 1) * (b2 - 1)) (b2 - 1) : Nat) : Int)) (by rw [w1_t (Int.ofNat.inj c136)]; omega) ?_
                            refine lv_istore_n (lv' := [(2, .int (zI (((acc2 + wy 0 (n - (b - 1) * (b - 1) - (b2 - 1) * (b2 - 1)) (b2 - 1) : Nat) : Int)))), (7, .int (zI (((min (sqN (n - (b - 1) * (b - 1) - (b2 - 1) * (b2 - 1))) (b2 - 1) : Nat) : Int)))), (6, .int (zI (((n - (b - 1) * (b - 1) - (b2 - 1) * (b2 - 1) : Nat) : Int)))), (0, .int (zI (n))), (1, .int (zI (3))), (3, .int (zI ((b : Int) - 1))), (4, .int (zI (((n - (b - 1) * (b - 1) : Nat) : Int)))), (5, .int (zI ((b2 : Int) - 1)))]) hx hb dX7_ways_145 rfl hl (by decide) rfl (fun ls hl => ?_)
                            refine lv_iload hx hb dX7_ways_146 (lv_at hl 1 rfl) ?_
                            refine z_if_lt (tgt := 204) hx hb dX7_ways_148 (by decide) (by omega) (fun c148 => ?_) (fun c148 => ?_)
                            · exact absurd c148 (by omega)
                            · refine lv_iload_n hx hb dX7_ways_151 rfl (lv_at hl 4 rfl) ?_
                              refine lv_iconst (v := zI 3) hx hb dX7_ways_152 rfl ?_
                              refine z_icmp_le (tgt := 204) hx hb dX7_ways_153 (by decide) (by omega) (by omega) (fun c153 => ?_) (fun c153 => ?_)
                              · refine lv_iinc (v := zI (((b2 - 1 : Nat) : Int) - 1)) (lv' := [(5, .int (zI (((b2 - 1 : Nat) : Int) - 1))), (2, .int (zI (((acc2 + wy 0 (n - (b - 1) * (b - 1) - (b2 - 1) * (b2 - 1)) (b2 - 1) : Nat) : Int)))), (7, .int (zI (((min (sqN (n - (b - 1) * (b - 1) - (b2 - 1) * (b2 - 1))) (b2 - 1) : Nat) : Int)))), (6, .int (zI (((n - (b - 1) * (b - 1) - (b2 - 1) * (b2 - 1) : Nat) : Int)))), (0, .int (zI (n))), (1, .int (zI (3))), (3, .int (zI ((b : Int) - 1))), (4, .int (zI (((n - (b - 1) * (b - 1) : Nat) : Int))))]) hx hb dX7_ways_204 hl (k := 7) rfl (zI_incr (by omega)) (by decide) rfl (fun ls hl => ?_)
                                refine lv_goto (tgt := 80) hx hb dX7_ways_207 (by decide) ?_
                                exact ih80 (b2 - 1) (acc2 + wy 0 (n - (b - 1) * (b - 1) - (b2 - 1) * (b2 - 1)) (b2 - 1)) (by omega) (by have z := sn_p (fun a => wy 0 (n - (b - 1) * (b - 1) - a * a) a) (show 0 < b2 by omega); omega) (by omega) _ (lv_sub hl [4, 5, 1, 6, 7, 0] rfl)
                              · exact absurd c153 (by omega)
                      · refine lv_iload hx hb dX7_ways_114 (lv_at hl 7 rfl) ?_
                        refine z_re (e2 := ((min (sqN (n - (b - 1) * (b - 1) - (b2 - 1) * (b2 - 1))) (b2 - 1) : Nat) : Int)) (by omega) ?_
                        refine lv_goto (tgt := 121) hx hb dX7_ways_116 (by decide) ?_
                        refine lv_istore (lv' := [(7, .int (zI (((min (sqN (n - (b - 1) * (b - 1) - (b2 - 1) * (b2 - 1))) (b2 - 1) : Nat) : Int)))), (6, .int (zI (((n - (b - 1) * (b - 1) - (b2 - 1) * (b2 - 1) : Nat) : Int)))), (0, .int (zI (n))), (1, .int (zI (3))), (2, .int (zI (acc2))), (3, .int (zI ((b : Int) - 1))), (4, .int (zI (((n - (b - 1) * (b - 1) : Nat) : Int)))), (5, .int (zI ((b2 : Int) - 1)))]) hx hb dX7_ways_121 hl (by decide) rfl (fun ls hl => ?_)
                        refine lv_iload_n hx hb dX7_ways_123 rfl (lv_at hl 3 rfl) ?_
                        refine lv_iconst (v := zI 3) hx hb dX7_ways_124 rfl ?_
                        refine z_icmp_ne (tgt := 146) hx hb dX7_ways_125 (by decide) (by omega) (by omega) (fun c125 => ?_) (fun c125 => ?_)
                        · exact absurd rfl c125
                        · refine lv_iload_n hx hb dX7_ways_128 rfl (lv_at hl 4 rfl) ?_
                          refine lv_iload hx hb dX7_ways_129 (lv_at hl 1 rfl) ?_
                          refine lv_iload hx hb dX7_ways_131 (lv_at hl 0 rfl) ?_
                          refine lv_iload hx hb dX7_ways_133 (lv_at hl 0 rfl) ?_
                          refine z_imul hx hb dX7_ways_135 ?_
                          refine z_re (e2 := (((min (sqN (n - (b - 1) * (b - 1) - (b2 - 1) * (b2 - 1))) (b2 - 1)) * (min (sqN (n - (b - 1) * (b - 1) - (b2 - 1) * (b2 - 1))) (b2 - 1)) : Nat) : Int)) (by rw [Int.natCast_mul]) ?_
                          refine z_icmp_ne (tgt := 143) hx hb dX7_ways_136 (by decide) (by omega) (by omega) (fun c136 => ?_) (fun c136 => ?_)
                          · refine lv_iconst (v := zI 0) hx hb dX7_ways_143 rfl ?_
                            refine z_iadd hx hb dX7_ways_144 ?_
                            refine z_re (e2 := ((acc2 + wy 0 (n - (b - 1) * (b - 1) - (b2 - 1) * (b2 - 1)) (b2 - 1) : Nat) : Int)) (by rw [w1_f (fun z => c136 (by rw [← z]))]; omega) ?_
                            refine lv_istore_n (lv' := [(2, .int (zI (((acc2 + wy 0 (n - (b - 1) * (b - 1) - (b2 - 1) * (b2 - 1)) (b2 - 1) : Nat) : Int)))), (7, .int (zI (((min (sqN (n - (b - 1) * (b - 1) - (b2 - 1) * (b2 - 1))) (b2 - 1) : Nat) : Int)))), (6, .int (zI (((n - (b - 1) * (b - 1) - (b2 - 1) * (b2 - 1) : Nat) : Int)))), (0, .int (zI (n))), (1, .int (zI (3))), (3, .int (zI ((b : Int) - 1))), (4, .int (zI (((n - (b - 1) * (b - 1) : Nat) : Int)))), (5, .int (zI ((b2 : Int) - 1)))]) hx hb dX7_ways_145 rfl hl (by decide) rfl (fun ls hl => ?_)
                            refine lv_iload hx hb dX7_ways_146 (lv_at hl 1 rfl) ?_
                            refine z_if_lt (tgt := 204) hx hb dX7_ways_148 (by decide) (by omega) (fun c148 => ?_) (fun c148 => ?_)
                            · exact absurd c148 (by omega)
                            · refine lv_iload_n hx hb dX7_ways_151 rfl (lv_at hl 4 rfl) ?_
                              refine lv_iconst (v := zI 3) hx hb dX7_ways_152 rfl ?_
                              refine z_icmp_le (tgt := 204) hx hb dX7_ways_153 (by decide) (by omega) (by omega) (fun c153 => ?_) (fun c153 => ?_)
                              · refine lv_iinc (v := zI (((b2 - 1 : Nat) : Int) - 1)) (lv' := [(5, .int (zI (((b2 - 1 : Nat) : Int) - 1))), (2, .int (zI (((acc2 + wy 0 (n - (b - 1) * (b - 1) - (b2 - 1) * (b2 - 1)) (b2 - 1) : Nat) : Int)))), (7, .int (zI (((min (sqN (n - (b - 1) * (b - 1) - (b2 - 1) * (b2 - 1))) (b2 - 1) : Nat) : Int)))), (6, .int (zI (((n - (b - 1) * (b - 1) - (b2 - 1) * (b2 - 1) : Nat) : Int)))), (0, .int (zI (n))), (1, .int (zI (3))), (3, .int (zI ((b : Int) - 1))), (4, .int (zI (((n - (b - 1) * (b - 1) : Nat) : Int))))]) hx hb dX7_ways_204 hl (k := 7) rfl (zI_incr (by omega)) (by decide) rfl (fun ls hl => ?_)
                                refine lv_goto (tgt := 80) hx hb dX7_ways_207 (by decide) ?_
                                exact ih80 (b2 - 1) (acc2 + wy 0 (n - (b - 1) * (b - 1) - (b2 - 1) * (b2 - 1)) (b2 - 1)) (by omega) (by have z := sn_p (fun a => wy 0 (n - (b - 1) * (b - 1) - a * a) a) (show 0 < b2 by omega); omega) (by omega) _ (lv_sub hl [4, 5, 1, 6, 7, 0] rfl)
                              · exact absurd c153 (by omega)
                          · refine lv_iconst (v := zI 1) hx hb dX7_ways_139 rfl ?_
                            refine lv_goto (tgt := 144) hx hb dX7_ways_140 (by decide) ?_
                            refine z_iadd hx hb dX7_ways_144 ?_
                            refine z_re (e2 := ((acc2 + wy 0 (n - (b - 1) * (b - 1) - (b2 - 1) * (b2 - 1)) (b2 - 1) : Nat) : Int)) (by rw [w1_t (Int.ofNat.inj c136)]; omega) ?_
                            refine lv_istore_n (lv' := [(2, .int (zI (((acc2 + wy 0 (n - (b - 1) * (b - 1) - (b2 - 1) * (b2 - 1)) (b2 - 1) : Nat) : Int)))), (7, .int (zI (((min (sqN (n - (b - 1) * (b - 1) - (b2 - 1) * (b2 - 1))) (b2 - 1) : Nat) : Int)))), (6, .int (zI (((n - (b - 1) * (b - 1) - (b2 - 1) * (b2 - 1) : Nat) : Int)))), (0, .int (zI (n))), (1, .int (zI (3))), (3, .int (zI ((b : Int) - 1))), (4, .int (zI (((n - (b - 1) * (b - 1) : Nat) : Int)))), (5, .int (zI ((b2 : Int) - 1)))]) hx hb dX7_ways_145 rfl hl (by decide) rfl (fun ls hl => ?_)
                            refine lv_iload hx hb dX7_ways_146 (lv_at hl 1 rfl) ?_
                            refine z_if_lt (tgt := 204) hx hb dX7_ways_148 (by decide) (by omega) (fun c148 => ?_) (fun c148 => ?_)
                            · exact absurd c148 (by omega)
                            · refine lv_iload_n hx hb dX7_ways_151 rfl (lv_at hl 4 rfl) ?_
                              refine lv_iconst (v := zI 3) hx hb dX7_ways_152 rfl ?_
                              refine z_icmp_le (tgt := 204) hx hb dX7_ways_153 (by decide) (by omega) (by omega) (fun c153 => ?_) (fun c153 => ?_)
                              · refine lv_iinc (v := zI (((b2 - 1 : Nat) : Int) - 1)) (lv' := [(5, .int (zI (((b2 - 1 : Nat) : Int) - 1))), (2, .int (zI (((acc2 + wy 0 (n - (b - 1) * (b - 1) - (b2 - 1) * (b2 - 1)) (b2 - 1) : Nat) : Int)))), (7, .int (zI (((min (sqN (n - (b - 1) * (b - 1) - (b2 - 1) * (b2 - 1))) (b2 - 1) : Nat) : Int)))), (6, .int (zI (((n - (b - 1) * (b - 1) - (b2 - 1) * (b2 - 1) : Nat) : Int)))), (0, .int (zI (n))), (1, .int (zI (3))), (3, .int (zI ((b : Int) - 1))), (4, .int (zI (((n - (b - 1) * (b - 1) : Nat) : Int))))]) hx hb dX7_ways_204 hl (k := 7) rfl (zI_incr (by omega)) (by decide) rfl (fun ls hl => ?_)
                                refine lv_goto (tgt := 80) hx hb dX7_ways_207 (by decide) ?_
                                exact ih80 (b2 - 1) (acc2 + wy 0 (n - (b - 1) * (b - 1) - (b2 - 1) * (b2 - 1)) (b2 - 1)) (by omega) (by have z := sn_p (fun a => wy 0 (n - (b - 1) * (b - 1) - a * a) a) (show 0 < b2 by omega); omega) (by omega) _ (lv_sub hl [4, 5, 1, 6, 7, 0] rfl)
                              · exact absurd c153 (by omega)
              exact lp80 _ (min (sqN (n - (b - 1) * (b - 1))) (b - 1) + 1) (acc) (by omega) (by rw [wy_s, Nat.min_comm (sqN (n - (b - 1) * (b - 1))) (b - 1)]) (Nat.lt_succ_self _) _ (lv_sub hl [2, 3, 4, 5, 1, 0] rfl)
            · exact absurd c59 (by omega)
          · refine lv_iload_n hx hb dX7_ways_49 rfl (lv_at hl 5 rfl) ?_
            refine z_re (e2 := ((min (sqN (n - (b - 1) * (b - 1))) (b - 1) + 1 : Nat) : Int) - 1) (by omega) ?_
            refine lv_goto (tgt := 55) hx hb dX7_ways_50 (by decide) ?_
            refine lv_istore (lv' := [(5, .int (zI (((min (sqN (n - (b - 1) * (b - 1))) (b - 1) + 1 : Nat) : Int) - 1))), (4, .int (zI (((n - (b - 1) * (b - 1) : Nat) : Int)))), (0, .int (zI (n))), (1, .int (zI (3))), (2, .int (zI (acc))), (3, .int (zI ((b : Int) - 1)))]) hx hb dX7_ways_55 hl (by decide) rfl (fun ls hl => ?_)
            refine lv_iload_n hx hb dX7_ways_57 rfl (lv_at hl 3 rfl) ?_
            refine lv_iconst (v := zI 2) hx hb dX7_ways_58 rfl ?_
            refine z_icmp_ne (tgt := 80) hx hb dX7_ways_59 (by decide) (by omega) (by omega) (fun c59 => ?_) (fun c59 => ?_)
            · have lp80 : ∀ (NN : Nat) (b2 : Nat) (acc2 : Nat) (q4 : b2 ≤ min (sqN (n - (b - 1) * (b - 1))) (b - 1) + 1) (q5 : acc2 + sn (fun a => wy 0 (n - (b - 1) * (b - 1) - a * a) a) b2 = acc + wy 1 (n - (b - 1) * (b - 1)) (b - 1)), b2 < NN → ∀ (ls : Array Slot), lv_has ls 10 [(0, .int (zI (n))), (1, .int (zI (3))), (2, .int (zI (acc2))), (3, .int (zI ((b : Int) - 1))), (4, .int (zI (((n - (b - 1) * (b - 1) : Nat) : Int)))), (5, .int (zI ((b2 : Int) - 1)))] → W p l e (headSpec wsX7_ways ({ frames := 1, cells := 0, slots := 0, locals := 22 })).room s m ([.int (zI (n)), .int (zI (3))] : List Value).toArray below meth c s.heap [] 0 0 (MQ below (vp_Si (fun r => r = zI (wy 2 n (sqN n) : Int))) ([.int (zI (n)), .int (zI (3))] : List Value).toArray s 0 0 (fun _ => False)) (F0 m 80 ls []) := by
                intro NN
                induction NN with
                | zero =>
                  intro b2 acc2 q4 q5 hmu
                  exact absurd hmu (Nat.not_lt_zero _)
                | succ NN ih80 =>
                  intro b2 acc2 q4 q5 hmu ls hl
                  refine lv_iload hx hb dX7_ways_80 (lv_at hl 5 rfl) ?_
                  refine z_if_lt (tgt := 210) hx hb dX7_ways_82 (by decide) (by omega) (fun c82 => ?_) (fun c82 => ?_)
                  · refine lv_iinc (v := zI (((b - 1 : Nat) : Int) - 1)) (lv' := [(3, .int (zI (((b - 1 : Nat) : Int) - 1))), (0, .int (zI (n))), (1, .int (zI (3))), (2, .int (zI (acc2))), (4, .int (zI (((n - (b - 1) * (b - 1) : Nat) : Int)))), (5, .int (zI ((b2 : Int) - 1)))]) hx hb dX7_ways_210 hl (k := 3) rfl (zI_incr (by omega)) (by decide) rfl (fun ls hl => ?_)
                    refine lv_goto (tgt := 25) hx hb dX7_ways_213 (by decide) ?_
                    exact ih25 (b - 1) (acc2) (by omega) (by have z := sn_p (fun a => wy 1 (n - a * a) a) (show 0 < b by omega); have z2 : sn (fun a => wy 0 (n - (b - 1) * (b - 1) - a * a) a) b2 = 0 := sn_0 _ (by omega); omega) (by omega) _ (lv_sub hl [1, 2, 3, 0] rfl)
                  · have hs2 : (b2 - 1) * (b2 - 1) ≤ n - (b - 1) * (b - 1) := sq_of_le (by omega)
                    have b3 := sqN_le (show n - (b - 1) * (b - 1) - (b2 - 1) * (b2 - 1) ≤ 1000000 by omega)
                    have b4 : (min (sqN (n - (b - 1) * (b - 1) - (b2 - 1) * (b2 - 1))) (b2 - 1)) * (min (sqN (n - (b - 1) * (b - 1) - (b2 - 1) * (b2 - 1))) (b2 - 1)) ≤ 1000 * 1000 := Nat.mul_le_mul (by omega) (by omega)
                    refine lv_iload_n hx hb dX7_ways_85 rfl (lv_at hl 1 rfl) ?_
                    refine lv_iconst (v := zI 2) hx hb dX7_ways_86 rfl ?_
                    refine z_icmp_le (tgt := 210) hx hb dX7_ways_87 (by decide) (by omega) (by omega) (fun c87 => ?_) (fun c87 => ?_)
                    · exact absurd c87 (by omega)
                    · refine lv_iload hx hb dX7_ways_90 (lv_at hl 4 rfl) ?_
                      refine lv_iload hx hb dX7_ways_92 (lv_at hl 5 rfl) ?_
                      refine z_re (e2 := ((b2 - 1 : Nat) : Int)) (by omega) ?_
                      refine lv_iload hx hb dX7_ways_94 (lv_at hl 5 rfl) ?_
                      refine z_re (e2 := ((b2 - 1 : Nat) : Int)) (by omega) ?_
                      refine z_imul hx hb dX7_ways_96 ?_
                      refine z_re (e2 := (((b2 - 1) * (b2 - 1) : Nat) : Int)) (by rw [Int.natCast_mul]) ?_
                      refine z_isub hx hb dX7_ways_97 ?_
                      refine z_re (e2 := ((n - (b - 1) * (b - 1) - (b2 - 1) * (b2 - 1) : Nat) : Int)) (by omega) ?_
                      refine lv_istore (lv' := [(6, .int (zI (((n - (b - 1) * (b - 1) - (b2 - 1) * (b2 - 1) : Nat) : Int)))), (0, .int (zI (n))), (1, .int (zI (3))), (2, .int (zI (acc2))), (3, .int (zI ((b : Int) - 1))), (4, .int (zI (((n - (b - 1) * (b - 1) : Nat) : Int)))), (5, .int (zI ((b2 : Int) - 1)))]) hx hb dX7_ways_98 hl (by decide) rfl (fun ls hl => ?_)
                      refine lv_iload hx hb dX7_ways_100 (lv_at hl 0 rfl) ?_
                      refine vp_callSi (va_runS (As := [.int (zI (((n - (b - 1) * (b - 1) - (b2 - 1) * (b2 - 1) : Nat) : Int)))]) (rest := []) ⟨hx, hb, hml, hown, hts⟩ (c_X7_rootOf l (n - (b - 1) * (b - 1) - (b2 - 1) * (b2 - 1)) (by omega)) (va_cwS 1 hts gX7_ways_X7_rootOf rfl rfl rfl (by decide +kernel) ⟨Nat.le_of_ble_eq_true rfl, Nat.le_of_ble_eq_true rfl⟩) ⟨fun a U g mk q => q, fun U hU hW => ⟨rfl, trivial⟩⟩ rfl rfl hl.1 rfl (lv_room (Nat.le_of_ble_eq_true rfl)) dX7_ways_102 ⟨Nat.le_of_ble_eq_true rfl, Nat.le_of_ble_eq_true rfl⟩).run (fun r hr102 => ?_)
                      obtain rfl := hr102
                      refine lv_istore (lv' := [(7, .int (zI (((sqN (n - (b - 1) * (b - 1) - (b2 - 1) * (b2 - 1)) : Nat) : Int)))), (6, .int (zI (((n - (b - 1) * (b - 1) - (b2 - 1) * (b2 - 1) : Nat) : Int)))), (0, .int (zI (n))), (1, .int (zI (3))), (2, .int (zI (acc2))), (3, .int (zI ((b : Int) - 1))), (4, .int (zI (((n - (b - 1) * (b - 1) : Nat) : Int)))), (5, .int (zI ((b2 : Int) - 1)))]) hx hb dX7_ways_105 hl (by decide) rfl (fun ls hl => ?_)
                      refine lv_iload hx hb dX7_ways_107 (lv_at hl 0 rfl) ?_
                      refine lv_iload hx hb dX7_ways_109 (lv_at hl 7 rfl) ?_
                      refine z_re (e2 := ((b2 - 1 : Nat) : Int)) (by omega) ?_
                      refine z_icmp_le (tgt := 119) hx hb dX7_ways_111 (by decide) (by omega) (by omega) (fun c111 => ?_) (fun c111 => ?_)
                      · refine lv_iload hx hb dX7_ways_119 (lv_at hl 0 rfl) ?_
                        refine z_re (e2 := ((min (sqN (n - (b - 1) * (b - 1) - (b2 - 1) * (b2 - 1))) (b2 - 1) : Nat) : Int)) (by omega) ?_
                        refine lv_istore (lv' := [(7, .int (zI (((min (sqN (n - (b - 1) * (b - 1) - (b2 - 1) * (b2 - 1))) (b2 - 1) : Nat) : Int)))), (6, .int (zI (((n - (b - 1) * (b - 1) - (b2 - 1) * (b2 - 1) : Nat) : Int)))), (0, .int (zI (n))), (1, .int (zI (3))), (2, .int (zI (acc2))), (3, .int (zI ((b : Int) - 1))), (4, .int (zI (((n - (b - 1) * (b - 1) : Nat) : Int)))), (5, .int (zI ((b2 : Int) - 1)))]) hx hb dX7_ways_121 hl (by decide) rfl (fun ls hl => ?_)
                        refine lv_iload_n hx hb dX7_ways_123 rfl (lv_at hl 3 rfl) ?_
                        refine lv_iconst (v := zI 3) hx hb dX7_ways_124 rfl ?_
                        refine z_icmp_ne (tgt := 146) hx hb dX7_ways_125 (by decide) (by omega) (by omega) (fun c125 => ?_) (fun c125 => ?_)
                        · exact absurd rfl c125
                        · refine lv_iload_n hx hb dX7_ways_128 rfl (lv_at hl 4 rfl) ?_
                          refine lv_iload hx hb dX7_ways_129 (lv_at hl 1 rfl) ?_
                          refine lv_iload hx hb dX7_ways_131 (lv_at hl 0 rfl) ?_
                          refine lv_iload hx hb dX7_ways_133 (lv_at hl 0 rfl) ?_
                          refine z_imul hx hb dX7_ways_135 ?_
                          refine z_re (e2 := (((min (sqN (n - (b - 1) * (b - 1) - (b2 - 1) * (b2 - 1))) (b2 - 1)) * (min (sqN (n - (b - 1) * (b - 1) - (b2 - 1) * (b2 - 1))) (b2 - 1)) : Nat) : Int)) (by rw [Int.natCast_mul]) ?_
                          refine z_icmp_ne (tgt := 143) hx hb dX7_ways_136 (by decide) (by omega) (by omega) (fun c136 => ?_) (fun c136 => ?_)
                          · refine lv_iconst (v := zI 0) hx hb dX7_ways_143 rfl ?_
                            refine z_iadd hx hb dX7_ways_144 ?_
                            refine z_re (e2 := ((acc2 + wy 0 (n - (b - 1) * (b - 1) - (b2 - 1) * (b2 - 1)) (b2 - 1) : Nat) : Int)) (by rw [w1_f (fun z => c136 (by rw [← z]))]; omega) ?_
                            refine lv_istore_n (lv' := [(2, .int (zI (((acc2 + wy 0 (n - (b - 1) * (b - 1) - (b2 - 1) * (b2 - 1)) (b2 - 1) : Nat) : Int)))), (7, .int (zI (((min (sqN (n - (b - 1) * (b - 1) - (b2 - 1) * (b2 - 1))) (b2 - 1) : Nat) : Int)))), (6, .int (zI (((n - (b - 1) * (b - 1) - (b2 - 1) * (b2 - 1) : Nat) : Int)))), (0, .int (zI (n))), (1, .int (zI (3))), (3, .int (zI ((b : Int) - 1))), (4, .int (zI (((n - (b - 1) * (b - 1) : Nat) : Int)))), (5, .int (zI ((b2 : Int) - 1)))]) hx hb dX7_ways_145 rfl hl (by decide) rfl (fun ls hl => ?_)
                            refine lv_iload hx hb dX7_ways_146 (lv_at hl 1 rfl) ?_
                            refine z_if_lt (tgt := 204) hx hb dX7_ways_148 (by decide) (by omega) (fun c148 => ?_) (fun c148 => ?_)
                            · exact absurd c148 (by omega)
                            · refine lv_iload_n hx hb dX7_ways_151 rfl (lv_at hl 4 rfl) ?_
                              refine lv_iconst (v := zI 3) hx hb dX7_ways_152 rfl ?_
                              refine z_icmp_le (tgt := 204) hx hb dX7_ways_153 (by decide) (by omega) (by omega) (fun c153 => ?_) (fun c153 => ?_)
                              · refine lv_iinc (v := zI (((b2 - 1 : Nat) : Int) - 1)) (lv' := [(5, .int (zI (((b2 - 1 : Nat) : Int) - 1))), (2, .int (zI (((acc2 + wy 0 (n - (b - 1) * (b - 1) - (b2 - 1) * (b2 - 1)) (b2 - 1) : Nat) : Int)))), (7, .int (zI (((min (sqN (n - (b - 1) * (b - 1) - (b2 - 1) * (b2 - 1))) (b2 - 1) : Nat) : Int)))), (6, .int (zI (((n - (b - 1) * (b - 1) - (b2 - 1) * (b2 - 1) : Nat) : Int)))), (0, .int (zI (n))), (1, .int (zI (3))), (3, .int (zI ((b : Int) - 1))), (4, .int (zI (((n - (b - 1) * (b - 1) : Nat) : Int))))]) hx hb dX7_ways_204 hl (k := 7) rfl (zI_incr (by omega)) (by decide) rfl (fun ls hl => ?_)
                                refine lv_goto (tgt := 80) hx hb dX7_ways_207 (by decide) ?_
                                exact ih80 (b2 - 1) (acc2 + wy 0 (n - (b - 1) * (b - 1) - (b2 - 1) * (b2 - 1)) (b2 - 1)) (by omega) (by have z := sn_p (fun a => wy 0 (n - (b - 1) * (b - 1) - a * a) a) (show 0 < b2 by omega); omega) (by omega) _ (lv_sub hl [4, 5, 1, 6, 7, 0] rfl)
                              · exact absurd c153 (by omega)
                          · refine lv_iconst (v := zI 1) hx hb dX7_ways_139 rfl ?_
                            refine lv_goto (tgt := 144) hx hb dX7_ways_140 (by decide) ?_
                            refine z_iadd hx hb dX7_ways_144 ?_
                            refine z_re (e2 := ((acc2 + wy 0 (n - (b - 1) * (b - 1) - (b2 - 1) * (b2 - 1)) (b2 - 1) : Nat) : Int)) (by rw [w1_t (Int.ofNat.inj c136)]; omega) ?_
                            refine lv_istore_n (lv' := [(2, .int (zI (((acc2 + wy 0 (n - (b - 1) * (b - 1) - (b2 - 1) * (b2 - 1)) (b2 - 1) : Nat) : Int)))), (7, .int (zI (((min (sqN (n - (b - 1) * (b - 1) - (b2 - 1) * (b2 - 1))) (b2 - 1) : Nat) : Int)))), (6, .int (zI (((n - (b - 1) * (b - 1) - (b2 - 1) * (b2 - 1) : Nat) : Int)))), (0, .int (zI (n))), (1, .int (zI (3))), (3, .int (zI ((b : Int) - 1))), (4, .int (zI (((n - (b - 1) * (b - 1) : Nat) : Int)))), (5, .int (zI ((b2 : Int) - 1)))]) hx hb dX7_ways_145 rfl hl (by decide) rfl (fun ls hl => ?_)
                            refine lv_iload hx hb dX7_ways_146 (lv_at hl 1 rfl) ?_
                            refine z_if_lt (tgt := 204) hx hb dX7_ways_148 (by decide) (by omega) (fun c148 => ?_) (fun c148 => ?_)
                            · exact absurd c148 (by omega)
                            · refine lv_iload_n hx hb dX7_ways_151 rfl (lv_at hl 4 rfl) ?_
                              refine lv_iconst (v := zI 3) hx hb dX7_ways_152 rfl ?_
                              refine z_icmp_le (tgt := 204) hx hb dX7_ways_153 (by decide) (by omega) (by omega) (fun c153 => ?_) (fun c153 => ?_)
                              · refine lv_iinc (v := zI (((b2 - 1 : Nat) : Int) - 1)) (lv' := [(5, .int (zI (((b2 - 1 : Nat) : Int) - 1))), (2, .int (zI (((acc2 + wy 0 (n - (b - 1) * (b - 1) - (b2 - 1) * (b2 - 1)) (b2 - 1) : Nat) : Int)))), (7, .int (zI (((min (sqN (n - (b - 1) * (b - 1) - (b2 - 1) * (b2 - 1))) (b2 - 1) : Nat) : Int)))), (6, .int (zI (((n - (b - 1) * (b - 1) - (b2 - 1) * (b2 - 1) : Nat) : Int)))), (0, .int (zI (n))), (1, .int (zI (3))), (3, .int (zI ((b : Int) - 1))), (4, .int (zI (((n - (b - 1) * (b - 1) : Nat) : Int))))]) hx hb dX7_ways_204 hl (k := 7) rfl (zI_incr (by omega)) (by decide) rfl (fun ls hl => ?_)
                                refine lv_goto (tgt := 80) hx hb dX7_ways_207 (by decide) ?_
                                exact ih80 (b2 - 1) (acc2 + wy 0 (n - (b - 1) * (b - 1) - (b2 - 1) * (b2 - 1)) (b2 - 1)) (by omega) (by have z := sn_p (fun a => wy 0 (n - (b - 1) * (b - 1) - a * a) a) (show 0 < b2 by omega); omega) (by omega) _ (lv_sub hl [4, 5, 1, 6, 7, 0] rfl)
                              · exact absurd c153 (by omega)
                      · refine lv_iload hx hb dX7_ways_114 (lv_at hl 7 rfl) ?_
                        refine z_re (e2 := ((min (sqN (n - (b - 1) * (b - 1) - (b2 - 1) * (b2 - 1))) (b2 - 1) : Nat) : Int)) (by omega) ?_
                        refine lv_goto (tgt := 121) hx hb dX7_ways_116 (by decide) ?_
                        refine lv_istore (lv' := [(7, .int (zI (((min (sqN (n - (b - 1) * (b - 1) - (b2 - 1) * (b2 - 1))) (b2 - 1) : Nat) : Int)))), (6, .int (zI (((n - (b - 1) * (b - 1) - (b2 - 1) * (b2 - 1) : Nat) : Int)))), (0, .int (zI (n))), (1, .int (zI (3))), (2, .int (zI (acc2))), (3, .int (zI ((b : Int) - 1))), (4, .int (zI (((n - (b - 1) * (b - 1) : Nat) : Int)))), (5, .int (zI ((b2 : Int) - 1)))]) hx hb dX7_ways_121 hl (by decide) rfl (fun ls hl => ?_)
                        refine lv_iload_n hx hb dX7_ways_123 rfl (lv_at hl 3 rfl) ?_
                        refine lv_iconst (v := zI 3) hx hb dX7_ways_124 rfl ?_
                        refine z_icmp_ne (tgt := 146) hx hb dX7_ways_125 (by decide) (by omega) (by omega) (fun c125 => ?_) (fun c125 => ?_)
                        · exact absurd rfl c125
                        · refine lv_iload_n hx hb dX7_ways_128 rfl (lv_at hl 4 rfl) ?_
                          refine lv_iload hx hb dX7_ways_129 (lv_at hl 1 rfl) ?_
                          refine lv_iload hx hb dX7_ways_131 (lv_at hl 0 rfl) ?_
                          refine lv_iload hx hb dX7_ways_133 (lv_at hl 0 rfl) ?_
                          refine z_imul hx hb dX7_ways_135 ?_
                          refine z_re (e2 := (((min (sqN (n - (b - 1) * (b - 1) - (b2 - 1) * (b2 - 1))) (b2 - 1)) * (min (sqN (n - (b - 1) * (b - 1) - (b2 - 1) * (b2 - 1))) (b2 - 1)) : Nat) : Int)) (by rw [Int.natCast_mul]) ?_
                          refine z_icmp_ne (tgt := 143) hx hb dX7_ways_136 (by decide) (by omega) (by omega) (fun c136 => ?_) (fun c136 => ?_)
                          · refine lv_iconst (v := zI 0) hx hb dX7_ways_143 rfl ?_
                            refine z_iadd hx hb dX7_ways_144 ?_
                            refine z_re (e2 := ((acc2 + wy 0 (n - (b - 1) * (b - 1) - (b2 - 1) * (b2 - 1)) (b2 - 1) : Nat) : Int)) (by rw [w1_f (fun z => c136 (by rw [← z]))]; omega) ?_
                            refine lv_istore_n (lv' := [(2, .int (zI (((acc2 + wy 0 (n - (b - 1) * (b - 1) - (b2 - 1) * (b2 - 1)) (b2 - 1) : Nat) : Int)))), (7, .int (zI (((min (sqN (n - (b - 1) * (b - 1) - (b2 - 1) * (b2 - 1))) (b2 - 1) : Nat) : Int)))), (6, .int (zI (((n - (b - 1) * (b - 1) - (b2 - 1) * (b2 - 1) : Nat) : Int)))), (0, .int (zI (n))), (1, .int (zI (3))), (3, .int (zI ((b : Int) - 1))), (4, .int (zI (((n - (b - 1) * (b - 1) : Nat) : Int)))), (5, .int (zI ((b2 : Int) - 1)))]) hx hb dX7_ways_145 rfl hl (by decide) rfl (fun ls hl => ?_)
                            refine lv_iload hx hb dX7_ways_146 (lv_at hl 1 rfl) ?_
                            refine z_if_lt (tgt := 204) hx hb dX7_ways_148 (by decide) (by omega) (fun c148 => ?_) (fun c148 => ?_)
                            · exact absurd c148 (by omega)
                            · refine lv_iload_n hx hb dX7_ways_151 rfl (lv_at hl 4 rfl) ?_
                              refine lv_iconst (v := zI 3) hx hb dX7_ways_152 rfl ?_
                              refine z_icmp_le (tgt := 204) hx hb dX7_ways_153 (by decide) (by omega) (by omega) (fun c153 => ?_) (fun c153 => ?_)
                              · refine lv_iinc (v := zI (((b2 - 1 : Nat) : Int) - 1)) (lv' := [(5, .int (zI (((b2 - 1 : Nat) : Int) - 1))), (2, .int (zI (((acc2 + wy 0 (n - (b - 1) * (b - 1) - (b2 - 1) * (b2 - 1)) (b2 - 1) : Nat) : Int)))), (7, .int (zI (((min (sqN (n - (b - 1) * (b - 1) - (b2 - 1) * (b2 - 1))) (b2 - 1) : Nat) : Int)))), (6, .int (zI (((n - (b - 1) * (b - 1) - (b2 - 1) * (b2 - 1) : Nat) : Int)))), (0, .int (zI (n))), (1, .int (zI (3))), (3, .int (zI ((b : Int) - 1))), (4, .int (zI (((n - (b - 1) * (b - 1) : Nat) : Int))))]) hx hb dX7_ways_204 hl (k := 7) rfl (zI_incr (by omega)) (by decide) rfl (fun ls hl => ?_)
                                refine lv_goto (tgt := 80) hx hb dX7_ways_207 (by decide) ?_
                                exact ih80 (b2 - 1) (acc2 + wy 0 (n - (b - 1) * (b - 1) - (b2 - 1) * (b2 - 1)) (b2 - 1)) (by omega) (by have z := sn_p (fun a => wy 0 (n - (b - 1) * (b - 1) - a * a) a) (show 0 < b2 by omega); omega) (by omega) _ (lv_sub hl [4, 5, 1, 6, 7, 0] rfl)
                              · exact absurd c153 (by omega)
                          · refine lv_iconst (v := zI 1) hx hb dX7_ways_139 rfl ?_
                            refine lv_goto (tgt := 144) hx hb dX7_ways_140 (by decide) ?_
                            refine z_iadd hx hb dX7_ways_144 ?_
                            refine z_re (e2 := ((acc2 + wy 0 (n - (b - 1) * (b - 1) - (b2 - 1) * (b2 - 1)) (b2 - 1) : Nat) : Int)) (by rw [w1_t (Int.ofNat.inj c136)]; omega) ?_
                            refine lv_istore_n (lv' := [(2, .int (zI (((acc2 + wy 0 (n - (b - 1) * (b - 1) - (b2 - 1) * (b2 - 1)) (b2 - 1) : Nat) : Int)))), (7, .int (zI (((min (sqN (n - (b - 1) * (b - 1) - (b2 - 1) * (b2 - 1))) (b2 - 1) : Nat) : Int)))), (6, .int (zI (((n - (b - 1) * (b - 1) - (b2 - 1) * (b2 - 1) : Nat) : Int)))), (0, .int (zI (n))), (1, .int (zI (3))), (3, .int (zI ((b : Int) - 1))), (4, .int (zI (((n - (b - 1) * (b - 1) : Nat) : Int)))), (5, .int (zI ((b2 : Int) - 1)))]) hx hb dX7_ways_145 rfl hl (by decide) rfl (fun ls hl => ?_)
                            refine lv_iload hx hb dX7_ways_146 (lv_at hl 1 rfl) ?_
                            refine z_if_lt (tgt := 204) hx hb dX7_ways_148 (by decide) (by omega) (fun c148 => ?_) (fun c148 => ?_)
                            · exact absurd c148 (by omega)
                            · refine lv_iload_n hx hb dX7_ways_151 rfl (lv_at hl 4 rfl) ?_
                              refine lv_iconst (v := zI 3) hx hb dX7_ways_152 rfl ?_
                              refine z_icmp_le (tgt := 204) hx hb dX7_ways_153 (by decide) (by omega) (by omega) (fun c153 => ?_) (fun c153 => ?_)
                              · refine lv_iinc (v := zI (((b2 - 1 : Nat) : Int) - 1)) (lv' := [(5, .int (zI (((b2 - 1 : Nat) : Int) - 1))), (2, .int (zI (((acc2 + wy 0 (n - (b - 1) * (b - 1) - (b2 - 1) * (b2 - 1)) (b2 - 1) : Nat) : Int)))), (7, .int (zI (((min (sqN (n - (b - 1) * (b - 1) - (b2 - 1) * (b2 - 1))) (b2 - 1) : Nat) : Int)))), (6, .int (zI (((n - (b - 1) * (b - 1) - (b2 - 1) * (b2 - 1) : Nat) : Int)))), (0, .int (zI (n))), (1, .int (zI (3))), (3, .int (zI ((b : Int) - 1))), (4, .int (zI (((n - (b - 1) * (b - 1) : Nat) : Int))))]) hx hb dX7_ways_204 hl (k := 7) rfl (zI_incr (by omega)) (by decide) rfl (fun ls hl => ?_)
                                refine lv_goto (tgt := 80) hx hb dX7_ways_207 (by decide) ?_
                                exact ih80 (b2 - 1) (acc2 + wy 0 (n - (b - 1) * (b - 1) - (b2 - 1) * (b2 - 1)) (b2 - 1)) (by omega) (by have z := sn_p (fun a => wy 0 (n - (b - 1) * (b - 1) - a * a) a) (show 0 < b2 by omega); omega) (by omega) _ (lv_sub hl [4, 5, 1, 6, 7, 0] rfl)
                              · exact absurd c153 (by omega)
              exact lp80 _ (min (sqN (n - (b - 1) * (b - 1))) (b - 1) + 1) (acc) (by omega) (by rw [wy_s, Nat.min_comm (sqN (n - (b - 1) * (b - 1))) (b - 1)]) (Nat.lt_succ_self _) _ (lv_sub hl [2, 3, 4, 5, 1, 0] rfl)
            · exact absurd c59 (by omega)
    exact lp25 _ (sqN n + 1) (0) (by omega) (by rw [wy_s, Nat.min_self]; omega) (Nat.lt_succ_self _) _ (lv_sub hl [2, 3, 1, 0] rfl)
  · exact absurd c9 (by omega)

-- the check: ways(n, 4)
set_option maxHeartbeats 4000000 in
set_option maxRecDepth 100000 in
theorem c_X7_ways_3 (l : Launch) (n : Nat) (gn : n ≤ 1000000) : Met l yX7_ways wsX7_ways ({ frames := 1, cells := 0, slots := 0, locals := 22 }) (va_Pc [.int (zI (n)), .int (zI (4))] (fun _ => True)) (vp_Si (fun r => r = zI (wy 3 n (sqN n) : Int))) 0 0 (fun _ => False) := by
  refine Met.ofW (cc := cX7_ways) (maxL := 10) (ret := (some .int)) (by decide) rfl ?_
  intro p e s m args below meth c s₁ B hml hv
  obtain ⟨rfl, -⟩ := hv
  have hx := B.exec
  have hb := B.bytes
  have hr := B.returns
  have hts := atoms_spec (ws := wsX7_ways) B.pre
  have hown : s.vm.findClass RX7 = some m.cls := findClass_of_methodNamed B.named
  have hlocks := B.notSynchronized
  have hl := lv_entry ([.int (zI (n)), .int (zI (4))]) (n := 10) (Nat.le_of_ble_eq_true rfl)
  rw [lg_entry_eq]
  generalize (lg_sl ([.int (zI (n)), .int (zI (4))]) ++ List.replicate (10 - (lg_sl ([.int (zI (n)), .int (zI (4))])).length) Slot.unset).toArray = ls at hl ⊢
  have hl : lv_has ls 10 [(0, .int (zI (n))), (1, .int (zI (4)))] := hl
  have b0 := sqN_le gn
  refine lv_iconst (v := zI 0) hx hb dX7_ways_0 rfl ?_
  refine z_re (e2 := ((0 : Nat) : Int)) (rfl) ?_
  refine lv_istore_n (lv' := [(2, .int (zI (((0 : Nat) : Int)))), (0, .int (zI (n))), (1, .int (zI (4)))]) hx hb dX7_ways_1 rfl hl (by decide) rfl (fun ls hl => ?_)
  refine lv_iload_n hx hb dX7_ways_2 rfl (lv_at hl 1 rfl) ?_
  refine vp_callSi (va_runS (As := [.int (zI (n))]) (rest := []) ⟨hx, hb, hml, hown, hts⟩ (c_X7_rootOf l n gn) (va_cwS 1 hts gX7_ways_X7_rootOf rfl rfl rfl (by decide +kernel) ⟨Nat.le_of_ble_eq_true rfl, Nat.le_of_ble_eq_true rfl⟩) ⟨fun a U g mk q => q, fun U hU hW => ⟨rfl, trivial⟩⟩ rfl rfl hl.1 rfl (lv_room (Nat.le_of_ble_eq_true rfl)) dX7_ways_3 ⟨Nat.le_of_ble_eq_true rfl, Nat.le_of_ble_eq_true rfl⟩).run (fun r hr3 => ?_)
  obtain rfl := hr3
  refine z_re (e2 := ((sqN n + 1 : Nat) : Int) - 1) (by omega) ?_
  refine lv_istore_n (lv' := [(3, .int (zI (((sqN n + 1 : Nat) : Int) - 1))), (2, .int (zI (((0 : Nat) : Int)))), (0, .int (zI (n))), (1, .int (zI (4)))]) hx hb dX7_ways_6 rfl hl (by decide) rfl (fun ls hl => ?_)
  refine lv_iload_n hx hb dX7_ways_7 rfl (lv_at hl 3 rfl) ?_
  refine lv_iconst (v := zI 1) hx hb dX7_ways_8 rfl ?_
  refine z_icmp_ne (tgt := 25) hx hb dX7_ways_9 (by decide) (by omega) (by omega) (fun c9 => ?_) (fun c9 => ?_)
  · have lp25 : ∀ (NN : Nat) (b : Nat) (acc : Nat) (q1 : b ≤ sqN n + 1) (q3 : acc + sn (fun a => wy 2 (n - a * a) a) b = wy 3 n (sqN n)), b < NN → ∀ (ls : Array Slot), lv_has ls 10 [(0, .int (zI (n))), (1, .int (zI (4))), (2, .int (zI (acc))), (3, .int (zI ((b : Int) - 1)))] → W p l e (headSpec wsX7_ways ({ frames := 1, cells := 0, slots := 0, locals := 22 })).room s m ([.int (zI (n)), .int (zI (4))] : List Value).toArray below meth c s.heap [] 0 0 (MQ below (vp_Si (fun r => r = zI (wy 3 n (sqN n) : Int))) ([.int (zI (n)), .int (zI (4))] : List Value).toArray s 0 0 (fun _ => False)) (F0 m 25 ls []) := by
      intro NN
      induction NN with
      | zero =>
        intro b acc q1 q3 hmu
        exact absurd hmu (Nat.not_lt_zero _)
      | succ NN ih25 =>
        intro b acc q1 q3 hmu ls hl
        refine lv_iload_n hx hb dX7_ways_25 rfl (lv_at hl 3 rfl) ?_
        refine z_if_lt (tgt := 216) hx hb dX7_ways_26 (by decide) (by omega) (fun c26 => ?_) (fun c26 => ?_)
        · refine lv_iload_n hx hb dX7_ways_216 rfl (lv_at hl 2 rfl) ?_
          exact W.iret (v := (zI (acc))) hx hb hr (fun tq ht hW => ⟨_, rfl, by rw [← q3, show b = 0 by omega]; rfl, ht⟩) (fun q h => by cases h) dX7_ways_217
        · have hsq : (b - 1) * (b - 1) ≤ n := sq_of_le (by omega)
          have b1 := sqN_le (show n - (b - 1) * (b - 1) ≤ 1000000 by omega)
          refine lv_iload_n hx hb dX7_ways_29 rfl (lv_at hl 0 rfl) ?_
          refine lv_iload_n hx hb dX7_ways_30 rfl (lv_at hl 3 rfl) ?_
          refine z_re (e2 := ((b - 1 : Nat) : Int)) (by omega) ?_
          refine lv_iload_n hx hb dX7_ways_31 rfl (lv_at hl 3 rfl) ?_
          refine z_re (e2 := ((b - 1 : Nat) : Int)) (by omega) ?_
          refine z_imul hx hb dX7_ways_32 ?_
          refine z_re (e2 := (((b - 1) * (b - 1) : Nat) : Int)) (by rw [Int.natCast_mul]) ?_
          refine z_isub hx hb dX7_ways_33 ?_
          refine z_re (e2 := ((n - (b - 1) * (b - 1) : Nat) : Int)) (by omega) ?_
          refine lv_istore (lv' := [(4, .int (zI (((n - (b - 1) * (b - 1) : Nat) : Int)))), (0, .int (zI (n))), (1, .int (zI (4))), (2, .int (zI (acc))), (3, .int (zI ((b : Int) - 1)))]) hx hb dX7_ways_34 hl (by decide) rfl (fun ls hl => ?_)
          refine lv_iload hx hb dX7_ways_36 (lv_at hl 0 rfl) ?_
          refine vp_callSi (va_runS (As := [.int (zI (((n - (b - 1) * (b - 1) : Nat) : Int)))]) (rest := []) ⟨hx, hb, hml, hown, hts⟩ (c_X7_rootOf l (n - (b - 1) * (b - 1)) (by omega)) (va_cwS 1 hts gX7_ways_X7_rootOf rfl rfl rfl (by decide +kernel) ⟨Nat.le_of_ble_eq_true rfl, Nat.le_of_ble_eq_true rfl⟩) ⟨fun a U g mk q => q, fun U hU hW => ⟨rfl, trivial⟩⟩ rfl rfl hl.1 rfl (lv_room (Nat.le_of_ble_eq_true rfl)) dX7_ways_38 ⟨Nat.le_of_ble_eq_true rfl, Nat.le_of_ble_eq_true rfl⟩).run (fun r hr38 => ?_)
          obtain rfl := hr38
          refine lv_istore (lv' := [(5, .int (zI (((sqN (n - (b - 1) * (b - 1)) : Nat) : Int)))), (4, .int (zI (((n - (b - 1) * (b - 1) : Nat) : Int)))), (0, .int (zI (n))), (1, .int (zI (4))), (2, .int (zI (acc))), (3, .int (zI ((b : Int) - 1)))]) hx hb dX7_ways_41 hl (by decide) rfl (fun ls hl => ?_)
          refine lv_iload hx hb dX7_ways_43 (lv_at hl 0 rfl) ?_
          refine lv_iload_n hx hb dX7_ways_45 rfl (lv_at hl 5 rfl) ?_
          refine z_re (e2 := ((b - 1 : Nat) : Int)) (by omega) ?_
          refine z_icmp_le (tgt := 53) hx hb dX7_ways_46 (by decide) (by omega) (by omega) (fun c46 => ?_) (fun c46 => ?_)
          · refine lv_iload hx hb dX7_ways_53 (lv_at hl 0 rfl) ?_
            refine z_re (e2 := ((min (sqN (n - (b - 1) * (b - 1))) (b - 1) + 1 : Nat) : Int) - 1) (by omega) ?_
            refine lv_istore (lv' := [(5, .int (zI (((min (sqN (n - (b - 1) * (b - 1))) (b - 1) + 1 : Nat) : Int) - 1))), (4, .int (zI (((n - (b - 1) * (b - 1) : Nat) : Int)))), (0, .int (zI (n))), (1, .int (zI (4))), (2, .int (zI (acc))), (3, .int (zI ((b : Int) - 1)))]) hx hb dX7_ways_55 hl (by decide) rfl (fun ls hl => ?_)
            refine lv_iload_n hx hb dX7_ways_57 rfl (lv_at hl 3 rfl) ?_
            refine lv_iconst (v := zI 2) hx hb dX7_ways_58 rfl ?_
            refine z_icmp_ne (tgt := 80) hx hb dX7_ways_59 (by decide) (by omega) (by omega) (fun c59 => ?_) (fun c59 => ?_)
            · have lp80 : ∀ (NN : Nat) (b2 : Nat) (acc2 : Nat) (q4 : b2 ≤ min (sqN (n - (b - 1) * (b - 1))) (b - 1) + 1) (q5 : acc2 + sn (fun a => wy 1 (n - (b - 1) * (b - 1) - a * a) a) b2 = acc + wy 2 (n - (b - 1) * (b - 1)) (b - 1)), b2 < NN → ∀ (ls : Array Slot), lv_has ls 10 [(0, .int (zI (n))), (1, .int (zI (4))), (2, .int (zI (acc2))), (3, .int (zI ((b : Int) - 1))), (4, .int (zI (((n - (b - 1) * (b - 1) : Nat) : Int)))), (5, .int (zI ((b2 : Int) - 1)))] → W p l e (headSpec wsX7_ways ({ frames := 1, cells := 0, slots := 0, locals := 22 })).room s m ([.int (zI (n)), .int (zI (4))] : List Value).toArray below meth c s.heap [] 0 0 (MQ below (vp_Si (fun r => r = zI (wy 3 n (sqN n) : Int))) ([.int (zI (n)), .int (zI (4))] : List Value).toArray s 0 0 (fun _ => False)) (F0 m 80 ls []) := by
                intro NN
                induction NN with
                | zero =>
                  intro b2 acc2 q4 q5 hmu
                  exact absurd hmu (Nat.not_lt_zero _)
                | succ NN ih80 =>
                  intro b2 acc2 q4 q5 hmu ls hl
                  refine lv_iload hx hb dX7_ways_80 (lv_at hl 5 rfl) ?_
                  refine z_if_lt (tgt := 210) hx hb dX7_ways_82 (by decide) (by omega) (fun c82 => ?_) (fun c82 => ?_)
                  · refine lv_iinc (v := zI (((b - 1 : Nat) : Int) - 1)) (lv' := [(3, .int (zI (((b - 1 : Nat) : Int) - 1))), (0, .int (zI (n))), (1, .int (zI (4))), (2, .int (zI (acc2))), (4, .int (zI (((n - (b - 1) * (b - 1) : Nat) : Int)))), (5, .int (zI ((b2 : Int) - 1)))]) hx hb dX7_ways_210 hl (k := 3) rfl (zI_incr (by omega)) (by decide) rfl (fun ls hl => ?_)
                    refine lv_goto (tgt := 25) hx hb dX7_ways_213 (by decide) ?_
                    exact ih25 (b - 1) (acc2) (by omega) (by have z := sn_p (fun a => wy 2 (n - a * a) a) (show 0 < b by omega); have z2 : sn (fun a => wy 1 (n - (b - 1) * (b - 1) - a * a) a) b2 = 0 := sn_0 _ (by omega); omega) (by omega) _ (lv_sub hl [1, 2, 3, 0] rfl)
                  · have hs2 : (b2 - 1) * (b2 - 1) ≤ n - (b - 1) * (b - 1) := sq_of_le (by omega)
                    have b3 := sqN_le (show n - (b - 1) * (b - 1) - (b2 - 1) * (b2 - 1) ≤ 1000000 by omega)
                    refine lv_iload_n hx hb dX7_ways_85 rfl (lv_at hl 1 rfl) ?_
                    refine lv_iconst (v := zI 2) hx hb dX7_ways_86 rfl ?_
                    refine z_icmp_le (tgt := 210) hx hb dX7_ways_87 (by decide) (by omega) (by omega) (fun c87 => ?_) (fun c87 => ?_)
                    · exact absurd c87 (by omega)
                    · refine lv_iload hx hb dX7_ways_90 (lv_at hl 4 rfl) ?_
                      refine lv_iload hx hb dX7_ways_92 (lv_at hl 5 rfl) ?_
                      refine z_re (e2 := ((b2 - 1 : Nat) : Int)) (by omega) ?_
                      refine lv_iload hx hb dX7_ways_94 (lv_at hl 5 rfl) ?_
                      refine z_re (e2 := ((b2 - 1 : Nat) : Int)) (by omega) ?_
                      refine z_imul hx hb dX7_ways_96 ?_
                      refine z_re (e2 := (((b2 - 1) * (b2 - 1) : Nat) : Int)) (by rw [Int.natCast_mul]) ?_
                      refine z_isub hx hb dX7_ways_97 ?_
                      refine z_re (e2 := ((n - (b - 1) * (b - 1) - (b2 - 1) * (b2 - 1) : Nat) : Int)) (by omega) ?_
                      refine lv_istore (lv' := [(6, .int (zI (((n - (b - 1) * (b - 1) - (b2 - 1) * (b2 - 1) : Nat) : Int)))), (0, .int (zI (n))), (1, .int (zI (4))), (2, .int (zI (acc2))), (3, .int (zI ((b : Int) - 1))), (4, .int (zI (((n - (b - 1) * (b - 1) : Nat) : Int)))), (5, .int (zI ((b2 : Int) - 1)))]) hx hb dX7_ways_98 hl (by decide) rfl (fun ls hl => ?_)
                      refine lv_iload hx hb dX7_ways_100 (lv_at hl 0 rfl) ?_
                      refine vp_callSi (va_runS (As := [.int (zI (((n - (b - 1) * (b - 1) - (b2 - 1) * (b2 - 1) : Nat) : Int)))]) (rest := []) ⟨hx, hb, hml, hown, hts⟩ (c_X7_rootOf l (n - (b - 1) * (b - 1) - (b2 - 1) * (b2 - 1)) (by omega)) (va_cwS 1 hts gX7_ways_X7_rootOf rfl rfl rfl (by decide +kernel) ⟨Nat.le_of_ble_eq_true rfl, Nat.le_of_ble_eq_true rfl⟩) ⟨fun a U g mk q => q, fun U hU hW => ⟨rfl, trivial⟩⟩ rfl rfl hl.1 rfl (lv_room (Nat.le_of_ble_eq_true rfl)) dX7_ways_102 ⟨Nat.le_of_ble_eq_true rfl, Nat.le_of_ble_eq_true rfl⟩).run (fun r hr102 => ?_)
                      obtain rfl := hr102
                      refine lv_istore (lv' := [(7, .int (zI (((sqN (n - (b - 1) * (b - 1) - (b2 - 1) * (b2 - 1)) : Nat) : Int)))), (6, .int (zI (((n - (b - 1) * (b - 1) - (b2 - 1) * (b2 - 1) : Nat) : Int)))), (0, .int (zI (n))), (1, .int (zI (4))), (2, .int (zI (acc2))), (3, .int (zI ((b : Int) - 1))), (4, .int (zI (((n - (b - 1) * (b - 1) : Nat) : Int)))), (5, .int (zI ((b2 : Int) - 1)))]) hx hb dX7_ways_105 hl (by decide) rfl (fun ls hl => ?_)
                      refine lv_iload hx hb dX7_ways_107 (lv_at hl 0 rfl) ?_
                      refine lv_iload hx hb dX7_ways_109 (lv_at hl 7 rfl) ?_
                      refine z_re (e2 := ((b2 - 1 : Nat) : Int)) (by omega) ?_
                      refine z_icmp_le (tgt := 119) hx hb dX7_ways_111 (by decide) (by omega) (by omega) (fun c111 => ?_) (fun c111 => ?_)
                      · refine lv_iload hx hb dX7_ways_119 (lv_at hl 0 rfl) ?_
                        refine z_re (e2 := ((min (sqN (n - (b - 1) * (b - 1) - (b2 - 1) * (b2 - 1))) (b2 - 1) + 1 : Nat) : Int) - 1) (by omega) ?_
                        refine lv_istore (lv' := [(7, .int (zI (((min (sqN (n - (b - 1) * (b - 1) - (b2 - 1) * (b2 - 1))) (b2 - 1) + 1 : Nat) : Int) - 1))), (6, .int (zI (((n - (b - 1) * (b - 1) - (b2 - 1) * (b2 - 1) : Nat) : Int)))), (0, .int (zI (n))), (1, .int (zI (4))), (2, .int (zI (acc2))), (3, .int (zI ((b : Int) - 1))), (4, .int (zI (((n - (b - 1) * (b - 1) : Nat) : Int)))), (5, .int (zI ((b2 : Int) - 1)))]) hx hb dX7_ways_121 hl (by decide) rfl (fun ls hl => ?_)
                        refine lv_iload_n hx hb dX7_ways_123 rfl (lv_at hl 3 rfl) ?_
                        refine lv_iconst (v := zI 3) hx hb dX7_ways_124 rfl ?_
                        refine z_icmp_ne (tgt := 146) hx hb dX7_ways_125 (by decide) (by omega) (by omega) (fun c125 => ?_) (fun c125 => ?_)
                        · have lp146 : ∀ (NN : Nat) (b3 : Nat) (acc3 : Nat) (q6 : b3 ≤ min (sqN (n - (b - 1) * (b - 1) - (b2 - 1) * (b2 - 1))) (b2 - 1) + 1) (q7 : acc3 + sn (fun a => wy 0 (n - (b - 1) * (b - 1) - (b2 - 1) * (b2 - 1) - a * a) a) b3 = acc2 + wy 1 (n - (b - 1) * (b - 1) - (b2 - 1) * (b2 - 1)) (b2 - 1)), b3 < NN → ∀ (ls : Array Slot), lv_has ls 10 [(0, .int (zI (n))), (1, .int (zI (4))), (2, .int (zI (acc3))), (3, .int (zI ((b : Int) - 1))), (4, .int (zI (((n - (b - 1) * (b - 1) : Nat) : Int)))), (5, .int (zI ((b2 : Int) - 1))), (6, .int (zI (((n - (b - 1) * (b - 1) - (b2 - 1) * (b2 - 1) : Nat) : Int)))), (7, .int (zI ((b3 : Int) - 1)))] → W p l e (headSpec wsX7_ways ({ frames := 1, cells := 0, slots := 0, locals := 22 })).room s m ([.int (zI (n)), .int (zI (4))] : List Value).toArray below meth c s.heap [] 0 0 (MQ below (vp_Si (fun r => r = zI (wy 3 n (sqN n) : Int))) ([.int (zI (n)), .int (zI (4))] : List Value).toArray s 0 0 (fun _ => False)) (F0 m 146 ls []) := by
                            intro NN
                            induction NN with
                            | zero =>
                              intro b3 acc3 q6 q7 hmu
                              exact absurd hmu (Nat.not_lt_zero _)
                            | succ NN ih146 =>
                              intro b3 acc3 q6 q7 hmu ls hl
                              refine lv_iload hx hb dX7_ways_146 (lv_at hl 7 rfl) ?_
                              refine z_if_lt (tgt := 204) hx hb dX7_ways_148 (by decide) (by omega) (fun c148 => ?_) (fun c148 => ?_)
                              · refine lv_iinc (v := zI (((b2 - 1 : Nat) : Int) - 1)) (lv' := [(5, .int (zI (((b2 - 1 : Nat) : Int) - 1))), (0, .int (zI (n))), (1, .int (zI (4))), (2, .int (zI (acc3))), (3, .int (zI ((b : Int) - 1))), (4, .int (zI (((n - (b - 1) * (b - 1) : Nat) : Int)))), (6, .int (zI (((n - (b - 1) * (b - 1) - (b2 - 1) * (b2 - 1) : Nat) : Int)))), (7, .int (zI ((b3 : Int) - 1)))]) hx hb dX7_ways_204 hl (k := 5) rfl (zI_incr (by omega)) (by decide) rfl (fun ls hl => ?_)
                                refine lv_goto (tgt := 80) hx hb dX7_ways_207 (by decide) ?_
                                exact ih80 (b2 - 1) (acc3) (by omega) (by have z := sn_p (fun a => wy 1 (n - (b - 1) * (b - 1) - a * a) a) (show 0 < b2 by omega); have z2 : sn (fun a => wy 0 (n - (b - 1) * (b - 1) - (b2 - 1) * (b2 - 1) - a * a) a) b3 = 0 := sn_0 _ (by omega); omega) (by omega) _ (lv_sub hl [1, 2, 3, 4, 5, 0] rfl)
                              · have hs3 : (b3 - 1) * (b3 - 1) ≤ n - (b - 1) * (b - 1) - (b2 - 1) * (b2 - 1) := sq_of_le (by omega)
                                have b5 := sqN_le (show n - (b - 1) * (b - 1) - (b2 - 1) * (b2 - 1) - (b3 - 1) * (b3 - 1) ≤ 1000000 by omega)
                                have b6 := (sqN_spec (n - (b - 1) * (b - 1) - (b2 - 1) * (b2 - 1) - (b3 - 1) * (b3 - 1))).1
                                refine lv_iload_n hx hb dX7_ways_151 rfl (lv_at hl 1 rfl) ?_
                                refine lv_iconst (v := zI 3) hx hb dX7_ways_152 rfl ?_
                                refine z_icmp_le (tgt := 204) hx hb dX7_ways_153 (by decide) (by omega) (by omega) (fun c153 => ?_) (fun c153 => ?_)
                                · exact absurd c153 (by omega)
                                · refine lv_iload hx hb dX7_ways_156 (lv_at hl 6 rfl) ?_
                                  refine lv_iload hx hb dX7_ways_158 (lv_at hl 7 rfl) ?_
                                  refine z_re (e2 := ((b3 - 1 : Nat) : Int)) (by omega) ?_
                                  refine lv_iload hx hb dX7_ways_160 (lv_at hl 7 rfl) ?_
                                  refine z_re (e2 := ((b3 - 1 : Nat) : Int)) (by omega) ?_
                                  refine z_imul hx hb dX7_ways_162 ?_
                                  refine z_re (e2 := (((b3 - 1) * (b3 - 1) : Nat) : Int)) (by rw [Int.natCast_mul]) ?_
                                  refine z_isub hx hb dX7_ways_163 ?_
                                  refine z_re (e2 := ((n - (b - 1) * (b - 1) - (b2 - 1) * (b2 - 1) - (b3 - 1) * (b3 - 1) : Nat) : Int)) (by omega) ?_
                                  refine lv_istore (lv' := [(8, .int (zI (((n - (b - 1) * (b - 1) - (b2 - 1) * (b2 - 1) - (b3 - 1) * (b3 - 1) : Nat) : Int)))), (0, .int (zI (n))), (1, .int (zI (4))), (2, .int (zI (acc3))), (3, .int (zI ((b : Int) - 1))), (4, .int (zI (((n - (b - 1) * (b - 1) : Nat) : Int)))), (5, .int (zI ((b2 : Int) - 1))), (6, .int (zI (((n - (b - 1) * (b - 1) - (b2 - 1) * (b2 - 1) : Nat) : Int)))), (7, .int (zI ((b3 : Int) - 1)))]) hx hb dX7_ways_164 hl (by decide) rfl (fun ls hl => ?_)
                                  refine lv_iload hx hb dX7_ways_166 (lv_at hl 0 rfl) ?_
                                  refine vp_callSi (va_runS (As := [.int (zI (((n - (b - 1) * (b - 1) - (b2 - 1) * (b2 - 1) - (b3 - 1) * (b3 - 1) : Nat) : Int)))]) (rest := []) ⟨hx, hb, hml, hown, hts⟩ (c_X7_rootOf l (n - (b - 1) * (b - 1) - (b2 - 1) * (b2 - 1) - (b3 - 1) * (b3 - 1)) (by omega)) (va_cwS 1 hts gX7_ways_X7_rootOf rfl rfl rfl (by decide +kernel) ⟨Nat.le_of_ble_eq_true rfl, Nat.le_of_ble_eq_true rfl⟩) ⟨fun a U g mk q => q, fun U hU hW => ⟨rfl, trivial⟩⟩ rfl rfl hl.1 rfl (lv_room (Nat.le_of_ble_eq_true rfl)) dX7_ways_168 ⟨Nat.le_of_ble_eq_true rfl, Nat.le_of_ble_eq_true rfl⟩).run (fun r hr168 => ?_)
                                  obtain rfl := hr168
                                  refine lv_istore (lv' := [(9, .int (zI (((sqN (n - (b - 1) * (b - 1) - (b2 - 1) * (b2 - 1) - (b3 - 1) * (b3 - 1)) : Nat) : Int)))), (8, .int (zI (((n - (b - 1) * (b - 1) - (b2 - 1) * (b2 - 1) - (b3 - 1) * (b3 - 1) : Nat) : Int)))), (0, .int (zI (n))), (1, .int (zI (4))), (2, .int (zI (acc3))), (3, .int (zI ((b : Int) - 1))), (4, .int (zI (((n - (b - 1) * (b - 1) : Nat) : Int)))), (5, .int (zI ((b2 : Int) - 1))), (6, .int (zI (((n - (b - 1) * (b - 1) - (b2 - 1) * (b2 - 1) : Nat) : Int)))), (7, .int (zI ((b3 : Int) - 1)))]) hx hb dX7_ways_171 hl (by decide) rfl (fun ls hl => ?_)
                                  refine lv_iload_n hx hb dX7_ways_173 rfl (lv_at hl 4 rfl) ?_
                                  refine lv_iload hx hb dX7_ways_174 (lv_at hl 0 rfl) ?_
                                  refine lv_iload hx hb dX7_ways_176 (lv_at hl 9 rfl) ?_
                                  refine z_re (e2 := ((b3 - 1 : Nat) : Int)) (by omega) ?_
                                  refine z_icmp_gt (tgt := 195) hx hb dX7_ways_178 (by decide) (by omega) (by omega) (fun c178 => ?_) (fun c178 => ?_)
                                  · refine lv_iconst (v := zI 0) hx hb dX7_ways_195 rfl ?_
                                    refine z_iadd hx hb dX7_ways_196 ?_
                                    refine z_re (e2 := ((acc3 + wy 0 (n - (b - 1) * (b - 1) - (b2 - 1) * (b2 - 1) - (b3 - 1) * (b3 - 1)) (b3 - 1) : Nat) : Int)) (by rw [w1_n (fun z => by omega)]; omega) ?_
                                    refine lv_istore_n (lv' := [(2, .int (zI (((acc3 + wy 0 (n - (b - 1) * (b - 1) - (b2 - 1) * (b2 - 1) - (b3 - 1) * (b3 - 1)) (b3 - 1) : Nat) : Int)))), (9, .int (zI (((sqN (n - (b - 1) * (b - 1) - (b2 - 1) * (b2 - 1) - (b3 - 1) * (b3 - 1)) : Nat) : Int)))), (8, .int (zI (((n - (b - 1) * (b - 1) - (b2 - 1) * (b2 - 1) - (b3 - 1) * (b3 - 1) : Nat) : Int)))), (0, .int (zI (n))), (1, .int (zI (4))), (3, .int (zI ((b : Int) - 1))), (4, .int (zI (((n - (b - 1) * (b - 1) : Nat) : Int)))), (5, .int (zI ((b2 : Int) - 1))), (6, .int (zI (((n - (b - 1) * (b - 1) - (b2 - 1) * (b2 - 1) : Nat) : Int)))), (7, .int (zI ((b3 : Int) - 1)))]) hx hb dX7_ways_197 rfl hl (by decide) rfl (fun ls hl => ?_)
                                    refine lv_iinc (v := zI (((b3 - 1 : Nat) : Int) - 1)) (lv' := [(7, .int (zI (((b3 - 1 : Nat) : Int) - 1))), (2, .int (zI (((acc3 + wy 0 (n - (b - 1) * (b - 1) - (b2 - 1) * (b2 - 1) - (b3 - 1) * (b3 - 1)) (b3 - 1) : Nat) : Int)))), (9, .int (zI (((sqN (n - (b - 1) * (b - 1) - (b2 - 1) * (b2 - 1) - (b3 - 1) * (b3 - 1)) : Nat) : Int)))), (8, .int (zI (((n - (b - 1) * (b - 1) - (b2 - 1) * (b2 - 1) - (b3 - 1) * (b3 - 1) : Nat) : Int)))), (0, .int (zI (n))), (1, .int (zI (4))), (3, .int (zI ((b : Int) - 1))), (4, .int (zI (((n - (b - 1) * (b - 1) : Nat) : Int)))), (5, .int (zI ((b2 : Int) - 1))), (6, .int (zI (((n - (b - 1) * (b - 1) - (b2 - 1) * (b2 - 1) : Nat) : Int))))]) hx hb dX7_ways_198 hl (k := 9) rfl (zI_incr (by omega)) (by decide) rfl (fun ls hl => ?_)
                                    refine lv_goto (tgt := 146) hx hb dX7_ways_201 (by decide) ?_
                                    exact ih146 (b3 - 1) (acc3 + wy 0 (n - (b - 1) * (b - 1) - (b2 - 1) * (b2 - 1) - (b3 - 1) * (b3 - 1)) (b3 - 1)) (by omega) (by have z := sn_p (fun a => wy 0 (n - (b - 1) * (b - 1) - (b2 - 1) * (b2 - 1) - a * a) a) (show 0 < b3 by omega); omega) (by omega) _ (lv_sub hl [4, 5, 1, 6, 7, 8, 9, 0] rfl)
                                  · refine lv_iload hx hb dX7_ways_181 (lv_at hl 0 rfl) ?_
                                    refine lv_iload hx hb dX7_ways_183 (lv_at hl 0 rfl) ?_
                                    refine z_imul hx hb dX7_ways_185 ?_
                                    refine z_re (e2 := ((sqN (n - (b - 1) * (b - 1) - (b2 - 1) * (b2 - 1) - (b3 - 1) * (b3 - 1)) * sqN (n - (b - 1) * (b - 1) - (b2 - 1) * (b2 - 1) - (b3 - 1) * (b3 - 1)) : Nat) : Int)) (by rw [Int.natCast_mul]) ?_
                                    refine lv_iload hx hb dX7_ways_186 (lv_at hl 1 rfl) ?_
                                    refine z_icmp_ne (tgt := 195) hx hb dX7_ways_188 (by decide) (by omega) (by omega) (fun c188 => ?_) (fun c188 => ?_)
                                    · refine lv_iconst (v := zI 0) hx hb dX7_ways_195 rfl ?_
                                      refine z_iadd hx hb dX7_ways_196 ?_
                                      refine z_re (e2 := ((acc3 + wy 0 (n - (b - 1) * (b - 1) - (b2 - 1) * (b2 - 1) - (b3 - 1) * (b3 - 1)) (b3 - 1) : Nat) : Int)) (by rw [w1_n (fun z => c188 (by rw [z.2]))]; omega) ?_
                                      refine lv_istore_n (lv' := [(2, .int (zI (((acc3 + wy 0 (n - (b - 1) * (b - 1) - (b2 - 1) * (b2 - 1) - (b3 - 1) * (b3 - 1)) (b3 - 1) : Nat) : Int)))), (9, .int (zI (((sqN (n - (b - 1) * (b - 1) - (b2 - 1) * (b2 - 1) - (b3 - 1) * (b3 - 1)) : Nat) : Int)))), (8, .int (zI (((n - (b - 1) * (b - 1) - (b2 - 1) * (b2 - 1) - (b3 - 1) * (b3 - 1) : Nat) : Int)))), (0, .int (zI (n))), (1, .int (zI (4))), (3, .int (zI ((b : Int) - 1))), (4, .int (zI (((n - (b - 1) * (b - 1) : Nat) : Int)))), (5, .int (zI ((b2 : Int) - 1))), (6, .int (zI (((n - (b - 1) * (b - 1) - (b2 - 1) * (b2 - 1) : Nat) : Int)))), (7, .int (zI ((b3 : Int) - 1)))]) hx hb dX7_ways_197 rfl hl (by decide) rfl (fun ls hl => ?_)
                                      refine lv_iinc (v := zI (((b3 - 1 : Nat) : Int) - 1)) (lv' := [(7, .int (zI (((b3 - 1 : Nat) : Int) - 1))), (2, .int (zI (((acc3 + wy 0 (n - (b - 1) * (b - 1) - (b2 - 1) * (b2 - 1) - (b3 - 1) * (b3 - 1)) (b3 - 1) : Nat) : Int)))), (9, .int (zI (((sqN (n - (b - 1) * (b - 1) - (b2 - 1) * (b2 - 1) - (b3 - 1) * (b3 - 1)) : Nat) : Int)))), (8, .int (zI (((n - (b - 1) * (b - 1) - (b2 - 1) * (b2 - 1) - (b3 - 1) * (b3 - 1) : Nat) : Int)))), (0, .int (zI (n))), (1, .int (zI (4))), (3, .int (zI ((b : Int) - 1))), (4, .int (zI (((n - (b - 1) * (b - 1) : Nat) : Int)))), (5, .int (zI ((b2 : Int) - 1))), (6, .int (zI (((n - (b - 1) * (b - 1) - (b2 - 1) * (b2 - 1) : Nat) : Int))))]) hx hb dX7_ways_198 hl (k := 9) rfl (zI_incr (by omega)) (by decide) rfl (fun ls hl => ?_)
                                      refine lv_goto (tgt := 146) hx hb dX7_ways_201 (by decide) ?_
                                      exact ih146 (b3 - 1) (acc3 + wy 0 (n - (b - 1) * (b - 1) - (b2 - 1) * (b2 - 1) - (b3 - 1) * (b3 - 1)) (b3 - 1)) (by omega) (by have z := sn_p (fun a => wy 0 (n - (b - 1) * (b - 1) - (b2 - 1) * (b2 - 1) - a * a) a) (show 0 < b3 by omega); omega) (by omega) _ (lv_sub hl [4, 5, 1, 6, 7, 8, 9, 0] rfl)
                                    · refine lv_iconst (v := zI 1) hx hb dX7_ways_191 rfl ?_
                                      refine lv_goto (tgt := 196) hx hb dX7_ways_192 (by decide) ?_
                                      refine z_iadd hx hb dX7_ways_196 ?_
                                      refine z_re (e2 := ((acc3 + wy 0 (n - (b - 1) * (b - 1) - (b2 - 1) * (b2 - 1) - (b3 - 1) * (b3 - 1)) (b3 - 1) : Nat) : Int)) (by rw [w1_y ⟨by omega, Int.ofNat.inj c188⟩]; omega) ?_
                                      refine lv_istore_n (lv' := [(2, .int (zI (((acc3 + wy 0 (n - (b - 1) * (b - 1) - (b2 - 1) * (b2 - 1) - (b3 - 1) * (b3 - 1)) (b3 - 1) : Nat) : Int)))), (9, .int (zI (((sqN (n - (b - 1) * (b - 1) - (b2 - 1) * (b2 - 1) - (b3 - 1) * (b3 - 1)) : Nat) : Int)))), (8, .int (zI (((n - (b - 1) * (b - 1) - (b2 - 1) * (b2 - 1) - (b3 - 1) * (b3 - 1) : Nat) : Int)))), (0, .int (zI (n))), (1, .int (zI (4))), (3, .int (zI ((b : Int) - 1))), (4, .int (zI (((n - (b - 1) * (b - 1) : Nat) : Int)))), (5, .int (zI ((b2 : Int) - 1))), (6, .int (zI (((n - (b - 1) * (b - 1) - (b2 - 1) * (b2 - 1) : Nat) : Int)))), (7, .int (zI ((b3 : Int) - 1)))]) hx hb dX7_ways_197 rfl hl (by decide) rfl (fun ls hl => ?_)
                                      refine lv_iinc (v := zI (((b3 - 1 : Nat) : Int) - 1)) (lv' := [(7, .int (zI (((b3 - 1 : Nat) : Int) - 1))), (2, .int (zI (((acc3 + wy 0 (n - (b - 1) * (b - 1) - (b2 - 1) * (b2 - 1) - (b3 - 1) * (b3 - 1)) (b3 - 1) : Nat) : Int)))), (9, .int (zI (((sqN (n - (b - 1) * (b - 1) - (b2 - 1) * (b2 - 1) - (b3 - 1) * (b3 - 1)) : Nat) : Int)))), (8, .int (zI (((n - (b - 1) * (b - 1) - (b2 - 1) * (b2 - 1) - (b3 - 1) * (b3 - 1) : Nat) : Int)))), (0, .int (zI (n))), (1, .int (zI (4))), (3, .int (zI ((b : Int) - 1))), (4, .int (zI (((n - (b - 1) * (b - 1) : Nat) : Int)))), (5, .int (zI ((b2 : Int) - 1))), (6, .int (zI (((n - (b - 1) * (b - 1) - (b2 - 1) * (b2 - 1) : Nat) : Int))))]) hx hb dX7_ways_198 hl (k := 9) rfl (zI_incr (by omega)) (by decide) rfl (fun ls hl => ?_)
                                      refine lv_goto (tgt := 146) hx hb dX7_ways_201 (by decide) ?_
                                      exact ih146 (b3 - 1) (acc3 + wy 0 (n - (b - 1) * (b - 1) - (b2 - 1) * (b2 - 1) - (b3 - 1) * (b3 - 1)) (b3 - 1)) (by omega) (by have z := sn_p (fun a => wy 0 (n - (b - 1) * (b - 1) - (b2 - 1) * (b2 - 1) - a * a) a) (show 0 < b3 by omega); omega) (by omega) _ (lv_sub hl [4, 5, 1, 6, 7, 8, 9, 0] rfl)
                          exact lp146 _ (min (sqN (n - (b - 1) * (b - 1) - (b2 - 1) * (b2 - 1))) (b2 - 1) + 1) (acc2) (by omega) (by rw [wy_s, Nat.min_comm (sqN (n - (b - 1) * (b - 1) - (b2 - 1) * (b2 - 1))) (b2 - 1)]) (Nat.lt_succ_self _) _ (lv_sub hl [2, 3, 4, 5, 6, 7, 1, 0] rfl)
                        · exact absurd c125 (by omega)
                      · refine lv_iload hx hb dX7_ways_114 (lv_at hl 7 rfl) ?_
                        refine z_re (e2 := ((min (sqN (n - (b - 1) * (b - 1) - (b2 - 1) * (b2 - 1))) (b2 - 1) + 1 : Nat) : Int) - 1) (by omega) ?_
                        refine lv_goto (tgt := 121) hx hb dX7_ways_116 (by decide) ?_
                        refine lv_istore (lv' := [(7, .int (zI (((min (sqN (n - (b - 1) * (b - 1) - (b2 - 1) * (b2 - 1))) (b2 - 1) + 1 : Nat) : Int) - 1))), (6, .int (zI (((n - (b - 1) * (b - 1) - (b2 - 1) * (b2 - 1) : Nat) : Int)))), (0, .int (zI (n))), (1, .int (zI (4))), (2, .int (zI (acc2))), (3, .int (zI ((b : Int) - 1))), (4, .int (zI (((n - (b - 1) * (b - 1) : Nat) : Int)))), (5, .int (zI ((b2 : Int) - 1)))]) hx hb dX7_ways_121 hl (by decide) rfl (fun ls hl => ?_)
                        refine lv_iload_n hx hb dX7_ways_123 rfl (lv_at hl 3 rfl) ?_
                        refine lv_iconst (v := zI 3) hx hb dX7_ways_124 rfl ?_
                        refine z_icmp_ne (tgt := 146) hx hb dX7_ways_125 (by decide) (by omega) (by omega) (fun c125 => ?_) (fun c125 => ?_)
                        · have lp146 : ∀ (NN : Nat) (b3 : Nat) (acc3 : Nat) (q6 : b3 ≤ min (sqN (n - (b - 1) * (b - 1) - (b2 - 1) * (b2 - 1))) (b2 - 1) + 1) (q7 : acc3 + sn (fun a => wy 0 (n - (b - 1) * (b - 1) - (b2 - 1) * (b2 - 1) - a * a) a) b3 = acc2 + wy 1 (n - (b - 1) * (b - 1) - (b2 - 1) * (b2 - 1)) (b2 - 1)), b3 < NN → ∀ (ls : Array Slot), lv_has ls 10 [(0, .int (zI (n))), (1, .int (zI (4))), (2, .int (zI (acc3))), (3, .int (zI ((b : Int) - 1))), (4, .int (zI (((n - (b - 1) * (b - 1) : Nat) : Int)))), (5, .int (zI ((b2 : Int) - 1))), (6, .int (zI (((n - (b - 1) * (b - 1) - (b2 - 1) * (b2 - 1) : Nat) : Int)))), (7, .int (zI ((b3 : Int) - 1)))] → W p l e (headSpec wsX7_ways ({ frames := 1, cells := 0, slots := 0, locals := 22 })).room s m ([.int (zI (n)), .int (zI (4))] : List Value).toArray below meth c s.heap [] 0 0 (MQ below (vp_Si (fun r => r = zI (wy 3 n (sqN n) : Int))) ([.int (zI (n)), .int (zI (4))] : List Value).toArray s 0 0 (fun _ => False)) (F0 m 146 ls []) := by
                            intro NN
                            induction NN with
                            | zero =>
                              intro b3 acc3 q6 q7 hmu
                              exact absurd hmu (Nat.not_lt_zero _)
                            | succ NN ih146 =>
                              intro b3 acc3 q6 q7 hmu ls hl
                              refine lv_iload hx hb dX7_ways_146 (lv_at hl 7 rfl) ?_
                              refine z_if_lt (tgt := 204) hx hb dX7_ways_148 (by decide) (by omega) (fun c148 => ?_) (fun c148 => ?_)
                              · refine lv_iinc (v := zI (((b2 - 1 : Nat) : Int) - 1)) (lv' := [(5, .int (zI (((b2 - 1 : Nat) : Int) - 1))), (0, .int (zI (n))), (1, .int (zI (4))), (2, .int (zI (acc3))), (3, .int (zI ((b : Int) - 1))), (4, .int (zI (((n - (b - 1) * (b - 1) : Nat) : Int)))), (6, .int (zI (((n - (b - 1) * (b - 1) - (b2 - 1) * (b2 - 1) : Nat) : Int)))), (7, .int (zI ((b3 : Int) - 1)))]) hx hb dX7_ways_204 hl (k := 5) rfl (zI_incr (by omega)) (by decide) rfl (fun ls hl => ?_)
                                refine lv_goto (tgt := 80) hx hb dX7_ways_207 (by decide) ?_
                                exact ih80 (b2 - 1) (acc3) (by omega) (by have z := sn_p (fun a => wy 1 (n - (b - 1) * (b - 1) - a * a) a) (show 0 < b2 by omega); have z2 : sn (fun a => wy 0 (n - (b - 1) * (b - 1) - (b2 - 1) * (b2 - 1) - a * a) a) b3 = 0 := sn_0 _ (by omega); omega) (by omega) _ (lv_sub hl [1, 2, 3, 4, 5, 0] rfl)
                              · have hs3 : (b3 - 1) * (b3 - 1) ≤ n - (b - 1) * (b - 1) - (b2 - 1) * (b2 - 1) := sq_of_le (by omega)
                                have b5 := sqN_le (show n - (b - 1) * (b - 1) - (b2 - 1) * (b2 - 1) - (b3 - 1) * (b3 - 1) ≤ 1000000 by omega)
                                have b6 := (sqN_spec (n - (b - 1) * (b - 1) - (b2 - 1) * (b2 - 1) - (b3 - 1) * (b3 - 1))).1
                                refine lv_iload_n hx hb dX7_ways_151 rfl (lv_at hl 1 rfl) ?_
                                refine lv_iconst (v := zI 3) hx hb dX7_ways_152 rfl ?_
                                refine z_icmp_le (tgt := 204) hx hb dX7_ways_153 (by decide) (by omega) (by omega) (fun c153 => ?_) (fun c153 => ?_)
                                · exact absurd c153 (by omega)
                                · refine lv_iload hx hb dX7_ways_156 (lv_at hl 6 rfl) ?_
                                  refine lv_iload hx hb dX7_ways_158 (lv_at hl 7 rfl) ?_
                                  refine z_re (e2 := ((b3 - 1 : Nat) : Int)) (by omega) ?_
                                  refine lv_iload hx hb dX7_ways_160 (lv_at hl 7 rfl) ?_
                                  refine z_re (e2 := ((b3 - 1 : Nat) : Int)) (by omega) ?_
                                  refine z_imul hx hb dX7_ways_162 ?_
                                  refine z_re (e2 := (((b3 - 1) * (b3 - 1) : Nat) : Int)) (by rw [Int.natCast_mul]) ?_
                                  refine z_isub hx hb dX7_ways_163 ?_
                                  refine z_re (e2 := ((n - (b - 1) * (b - 1) - (b2 - 1) * (b2 - 1) - (b3 - 1) * (b3 - 1) : Nat) : Int)) (by omega) ?_
                                  refine lv_istore (lv' := [(8, .int (zI (((n - (b - 1) * (b - 1) - (b2 - 1) * (b2 - 1) - (b3 - 1) * (b3 - 1) : Nat) : Int)))), (0, .int (zI (n))), (1, .int (zI (4))), (2, .int (zI (acc3))), (3, .int (zI ((b : Int) - 1))), (4, .int (zI (((n - (b - 1) * (b - 1) : Nat) : Int)))), (5, .int (zI ((b2 : Int) - 1))), (6, .int (zI (((n - (b - 1) * (b - 1) - (b2 - 1) * (b2 - 1) : Nat) : Int)))), (7, .int (zI ((b3 : Int) - 1)))]) hx hb dX7_ways_164 hl (by decide) rfl (fun ls hl => ?_)
                                  refine lv_iload hx hb dX7_ways_166 (lv_at hl 0 rfl) ?_
                                  refine vp_callSi (va_runS (As := [.int (zI (((n - (b - 1) * (b - 1) - (b2 - 1) * (b2 - 1) - (b3 - 1) * (b3 - 1) : Nat) : Int)))]) (rest := []) ⟨hx, hb, hml, hown, hts⟩ (c_X7_rootOf l (n - (b - 1) * (b - 1) - (b2 - 1) * (b2 - 1) - (b3 - 1) * (b3 - 1)) (by omega)) (va_cwS 1 hts gX7_ways_X7_rootOf rfl rfl rfl (by decide +kernel) ⟨Nat.le_of_ble_eq_true rfl, Nat.le_of_ble_eq_true rfl⟩) ⟨fun a U g mk q => q, fun U hU hW => ⟨rfl, trivial⟩⟩ rfl rfl hl.1 rfl (lv_room (Nat.le_of_ble_eq_true rfl)) dX7_ways_168 ⟨Nat.le_of_ble_eq_true rfl, Nat.le_of_ble_eq_true rfl⟩).run (fun r hr168 => ?_)
                                  obtain rfl := hr168
                                  refine lv_istore (lv' := [(9, .int (zI (((sqN (n - (b - 1) * (b - 1) - (b2 - 1) * (b2 - 1) - (b3 - 1) * (b3 - 1)) : Nat) : Int)))), (8, .int (zI (((n - (b - 1) * (b - 1) - (b2 - 1) * (b2 - 1) - (b3 - 1) * (b3 - 1) : Nat) : Int)))), (0, .int (zI (n))), (1, .int (zI (4))), (2, .int (zI (acc3))), (3, .int (zI ((b : Int) - 1))), (4, .int (zI (((n - (b - 1) * (b - 1) : Nat) : Int)))), (5, .int (zI ((b2 : Int) - 1))), (6, .int (zI (((n - (b - 1) * (b - 1) - (b2 - 1) * (b2 - 1) : Nat) : Int)))), (7, .int (zI ((b3 : Int) - 1)))]) hx hb dX7_ways_171 hl (by decide) rfl (fun ls hl => ?_)
                                  refine lv_iload_n hx hb dX7_ways_173 rfl (lv_at hl 4 rfl) ?_
                                  refine lv_iload hx hb dX7_ways_174 (lv_at hl 0 rfl) ?_
                                  refine lv_iload hx hb dX7_ways_176 (lv_at hl 9 rfl) ?_
                                  refine z_re (e2 := ((b3 - 1 : Nat) : Int)) (by omega) ?_
                                  refine z_icmp_gt (tgt := 195) hx hb dX7_ways_178 (by decide) (by omega) (by omega) (fun c178 => ?_) (fun c178 => ?_)
                                  · refine lv_iconst (v := zI 0) hx hb dX7_ways_195 rfl ?_
                                    refine z_iadd hx hb dX7_ways_196 ?_
                                    refine z_re (e2 := ((acc3 + wy 0 (n - (b - 1) * (b - 1) - (b2 - 1) * (b2 - 1) - (b3 - 1) * (b3 - 1)) (b3 - 1) : Nat) : Int)) (by rw [w1_n (fun z => by omega)]; omega) ?_
                                    refine lv_istore_n (lv' := [(2, .int (zI (((acc3 + wy 0 (n - (b - 1) * (b - 1) - (b2 - 1) * (b2 - 1) - (b3 - 1) * (b3 - 1)) (b3 - 1) : Nat) : Int)))), (9, .int (zI (((sqN (n - (b - 1) * (b - 1) - (b2 - 1) * (b2 - 1) - (b3 - 1) * (b3 - 1)) : Nat) : Int)))), (8, .int (zI (((n - (b - 1) * (b - 1) - (b2 - 1) * (b2 - 1) - (b3 - 1) * (b3 - 1) : Nat) : Int)))), (0, .int (zI (n))), (1, .int (zI (4))), (3, .int (zI ((b : Int) - 1))), (4, .int (zI (((n - (b - 1) * (b - 1) : Nat) : Int)))), (5, .int (zI ((b2 : Int) - 1))), (6, .int (zI (((n - (b - 1) * (b - 1) - (b2 - 1) * (b2 - 1) : Nat) : Int)))), (7, .int (zI ((b3 : Int) - 1)))]) hx hb dX7_ways_197 rfl hl (by decide) rfl (fun ls hl => ?_)
                                    refine lv_iinc (v := zI (((b3 - 1 : Nat) : Int) - 1)) (lv' := [(7, .int (zI (((b3 - 1 : Nat) : Int) - 1))), (2, .int (zI (((acc3 + wy 0 (n - (b - 1) * (b - 1) - (b2 - 1) * (b2 - 1) - (b3 - 1) * (b3 - 1)) (b3 - 1) : Nat) : Int)))), (9, .int (zI (((sqN (n - (b - 1) * (b - 1) - (b2 - 1) * (b2 - 1) - (b3 - 1) * (b3 - 1)) : Nat) : Int)))), (8, .int (zI (((n - (b - 1) * (b - 1) - (b2 - 1) * (b2 - 1) - (b3 - 1) * (b3 - 1) : Nat) : Int)))), (0, .int (zI (n))), (1, .int (zI (4))), (3, .int (zI ((b : Int) - 1))), (4, .int (zI (((n - (b - 1) * (b - 1) : Nat) : Int)))), (5, .int (zI ((b2 : Int) - 1))), (6, .int (zI (((n - (b - 1) * (b - 1) - (b2 - 1) * (b2 - 1) : Nat) : Int))))]) hx hb dX7_ways_198 hl (k := 9) rfl (zI_incr (by omega)) (by decide) rfl (fun ls hl => ?_)
                                    refine lv_goto (tgt := 146) hx hb dX7_ways_201 (by decide) ?_
                                    exact ih146 (b3 - 1) (acc3 + wy 0 (n - (b - 1) * (b - 1) - (b2 - 1) * (b2 - 1) - (b3 - 1) * (b3 - 1)) (b3 - 1)) (by omega) (by have z := sn_p (fun a => wy 0 (n - (b - 1) * (b - 1) - (b2 - 1) * (b2 - 1) - a * a) a) (show 0 < b3 by omega); omega) (by omega) _ (lv_sub hl [4, 5, 1, 6, 7, 8, 9, 0] rfl)
                                  · refine lv_iload hx hb dX7_ways_181 (lv_at hl 0 rfl) ?_
                                    refine lv_iload hx hb dX7_ways_183 (lv_at hl 0 rfl) ?_
                                    refine z_imul hx hb dX7_ways_185 ?_
                                    refine z_re (e2 := ((sqN (n - (b - 1) * (b - 1) - (b2 - 1) * (b2 - 1) - (b3 - 1) * (b3 - 1)) * sqN (n - (b - 1) * (b - 1) - (b2 - 1) * (b2 - 1) - (b3 - 1) * (b3 - 1)) : Nat) : Int)) (by rw [Int.natCast_mul]) ?_
                                    refine lv_iload hx hb dX7_ways_186 (lv_at hl 1 rfl) ?_
                                    refine z_icmp_ne (tgt := 195) hx hb dX7_ways_188 (by decide) (by omega) (by omega) (fun c188 => ?_) (fun c188 => ?_)
                                    · refine lv_iconst (v := zI 0) hx hb dX7_ways_195 rfl ?_
                                      refine z_iadd hx hb dX7_ways_196 ?_
                                      refine z_re (e2 := ((acc3 + wy 0 (n - (b - 1) * (b - 1) - (b2 - 1) * (b2 - 1) - (b3 - 1) * (b3 - 1)) (b3 - 1) : Nat) : Int)) (by rw [w1_n (fun z => c188 (by rw [z.2]))]; omega) ?_
                                      refine lv_istore_n (lv' := [(2, .int (zI (((acc3 + wy 0 (n - (b - 1) * (b - 1) - (b2 - 1) * (b2 - 1) - (b3 - 1) * (b3 - 1)) (b3 - 1) : Nat) : Int)))), (9, .int (zI (((sqN (n - (b - 1) * (b - 1) - (b2 - 1) * (b2 - 1) - (b3 - 1) * (b3 - 1)) : Nat) : Int)))), (8, .int (zI (((n - (b - 1) * (b - 1) - (b2 - 1) * (b2 - 1) - (b3 - 1) * (b3 - 1) : Nat) : Int)))), (0, .int (zI (n))), (1, .int (zI (4))), (3, .int (zI ((b : Int) - 1))), (4, .int (zI (((n - (b - 1) * (b - 1) : Nat) : Int)))), (5, .int (zI ((b2 : Int) - 1))), (6, .int (zI (((n - (b - 1) * (b - 1) - (b2 - 1) * (b2 - 1) : Nat) : Int)))), (7, .int (zI ((b3 : Int) - 1)))]) hx hb dX7_ways_197 rfl hl (by decide) rfl (fun ls hl => ?_)
                                      refine lv_iinc (v := zI (((b3 - 1 : Nat) : Int) - 1)) (lv' := [(7, .int (zI (((b3 - 1 : Nat) : Int) - 1))), (2, .int (zI (((acc3 + wy 0 (n - (b - 1) * (b - 1) - (b2 - 1) * (b2 - 1) - (b3 - 1) * (b3 - 1)) (b3 - 1) : Nat) : Int)))), (9, .int (zI (((sqN (n - (b - 1) * (b - 1) - (b2 - 1) * (b2 - 1) - (b3 - 1) * (b3 - 1)) : Nat) : Int)))), (8, .int (zI (((n - (b - 1) * (b - 1) - (b2 - 1) * (b2 - 1) - (b3 - 1) * (b3 - 1) : Nat) : Int)))), (0, .int (zI (n))), (1, .int (zI (4))), (3, .int (zI ((b : Int) - 1))), (4, .int (zI (((n - (b - 1) * (b - 1) : Nat) : Int)))), (5, .int (zI ((b2 : Int) - 1))), (6, .int (zI (((n - (b - 1) * (b - 1) - (b2 - 1) * (b2 - 1) : Nat) : Int))))]) hx hb dX7_ways_198 hl (k := 9) rfl (zI_incr (by omega)) (by decide) rfl (fun ls hl => ?_)
                                      refine lv_goto (tgt := 146) hx hb dX7_ways_201 (by decide) ?_
                                      exact ih146 (b3 - 1) (acc3 + wy 0 (n - (b - 1) * (b - 1) - (b2 - 1) * (b2 - 1) - (b3 - 1) * (b3 - 1)) (b3 - 1)) (by omega) (by have z := sn_p (fun a => wy 0 (n - (b - 1) * (b - 1) - (b2 - 1) * (b2 - 1) - a * a) a) (show 0 < b3 by omega); omega) (by omega) _ (lv_sub hl [4, 5, 1, 6, 7, 8, 9, 0] rfl)
                                    · refine lv_iconst (v := zI 1) hx hb dX7_ways_191 rfl ?_
                                      refine lv_goto (tgt := 196) hx hb dX7_ways_192 (by decide) ?_
                                      refine z_iadd hx hb dX7_ways_196 ?_
                                      refine z_re (e2 := ((acc3 + wy 0 (n - (b - 1) * (b - 1) - (b2 - 1) * (b2 - 1) - (b3 - 1) * (b3 - 1)) (b3 - 1) : Nat) : Int)) (by rw [w1_y ⟨by omega, Int.ofNat.inj c188⟩]; omega) ?_
                                      refine lv_istore_n (lv' := [(2, .int (zI (((acc3 + wy 0 (n - (b - 1) * (b - 1) - (b2 - 1) * (b2 - 1) - (b3 - 1) * (b3 - 1)) (b3 - 1) : Nat) : Int)))), (9, .int (zI (((sqN (n - (b - 1) * (b - 1) - (b2 - 1) * (b2 - 1) - (b3 - 1) * (b3 - 1)) : Nat) : Int)))), (8, .int (zI (((n - (b - 1) * (b - 1) - (b2 - 1) * (b2 - 1) - (b3 - 1) * (b3 - 1) : Nat) : Int)))), (0, .int (zI (n))), (1, .int (zI (4))), (3, .int (zI ((b : Int) - 1))), (4, .int (zI (((n - (b - 1) * (b - 1) : Nat) : Int)))), (5, .int (zI ((b2 : Int) - 1))), (6, .int (zI (((n - (b - 1) * (b - 1) - (b2 - 1) * (b2 - 1) : Nat) : Int)))), (7, .int (zI ((b3 : Int) - 1)))]) hx hb dX7_ways_197 rfl hl (by decide) rfl (fun ls hl => ?_)
                                      refine lv_iinc (v := zI (((b3 - 1 : Nat) : Int) - 1)) (lv' := [(7, .int (zI (((b3 - 1 : Nat) : Int) - 1))), (2, .int (zI (((acc3 + wy 0 (n - (b - 1) * (b - 1) - (b2 - 1) * (b2 - 1) - (b3 - 1) * (b3 - 1)) (b3 - 1) : Nat) : Int)))), (9, .int (zI (((sqN (n - (b - 1) * (b - 1) - (b2 - 1) * (b2 - 1) - (b3 - 1) * (b3 - 1)) : Nat) : Int)))), (8, .int (zI (((n - (b - 1) * (b - 1) - (b2 - 1) * (b2 - 1) - (b3 - 1) * (b3 - 1) : Nat) : Int)))), (0, .int (zI (n))), (1, .int (zI (4))), (3, .int (zI ((b : Int) - 1))), (4, .int (zI (((n - (b - 1) * (b - 1) : Nat) : Int)))), (5, .int (zI ((b2 : Int) - 1))), (6, .int (zI (((n - (b - 1) * (b - 1) - (b2 - 1) * (b2 - 1) : Nat) : Int))))]) hx hb dX7_ways_198 hl (k := 9) rfl (zI_incr (by omega)) (by decide) rfl (fun ls hl => ?_)
                                      refine lv_goto (tgt := 146) hx hb dX7_ways_201 (by decide) ?_
                                      exact ih146 (b3 - 1) (acc3 + wy 0 (n - (b - 1) * (b - 1) - (b2 - 1) * (b2 - 1) - (b3 - 1) * (b3 - 1)) (b3 - 1)) (by omega) (by have z := sn_p (fun a => wy 0 (n - (b - 1) * (b - 1) - (b2 - 1) * (b2 - 1) - a * a) a) (show 0 < b3 by omega); omega) (by omega) _ (lv_sub hl [4, 5, 1, 6, 7, 8, 9, 0] rfl)
                          exact lp146 _ (min (sqN (n - (b - 1) * (b - 1) - (b2 - 1) * (b2 - 1))) (b2 - 1) + 1) (acc2) (by omega) (by rw [wy_s, Nat.min_comm (sqN (n - (b - 1) * (b - 1) - (b2 - 1) * (b2 - 1))) (b2 - 1)]) (Nat.lt_succ_self _) _ (lv_sub hl [2, 3, 4, 5, 6, 7, 1, 0] rfl)
                        · exact absurd c125 (by omega)
              exact lp80 _ (min (sqN (n - (b - 1) * (b - 1))) (b - 1) + 1) (acc) (by omega) (by rw [wy_s, Nat.min_comm (sqN (n - (b - 1) * (b - 1))) (b - 1)]) (Nat.lt_succ_self _) _ (lv_sub hl [2, 3, 4, 5, 1, 0] rfl)
            · exact absurd c59 (by omega)
          · refine lv_iload_n hx hb dX7_ways_49 rfl (lv_at hl 5 rfl) ?_
            refine z_re (e2 := ((min (sqN (n - (b - 1) * (b - 1))) (b - 1) + 1 : Nat) : Int) - 1) (by omega) ?_
            refine lv_goto (tgt := 55) hx hb dX7_ways_50 (by decide) ?_
            refine lv_istore (lv' := [(5, .int (zI (((min (sqN (n - (b - 1) * (b - 1))) (b - 1) + 1 : Nat) : Int) - 1))), (4, .int (zI (((n - (b - 1) * (b - 1) : Nat) : Int)))), (0, .int (zI (n))), (1, .int (zI (4))), (2, .int (zI (acc))), (3, .int (zI ((b : Int) - 1)))]) hx hb dX7_ways_55 hl (by decide) rfl (fun ls hl => ?_)
            refine lv_iload_n hx hb dX7_ways_57 rfl (lv_at hl 3 rfl) ?_
            refine lv_iconst (v := zI 2) hx hb dX7_ways_58 rfl ?_
            refine z_icmp_ne (tgt := 80) hx hb dX7_ways_59 (by decide) (by omega) (by omega) (fun c59 => ?_) (fun c59 => ?_)
            · have lp80 : ∀ (NN : Nat) (b2 : Nat) (acc2 : Nat) (q4 : b2 ≤ min (sqN (n - (b - 1) * (b - 1))) (b - 1) + 1) (q5 : acc2 + sn (fun a => wy 1 (n - (b - 1) * (b - 1) - a * a) a) b2 = acc + wy 2 (n - (b - 1) * (b - 1)) (b - 1)), b2 < NN → ∀ (ls : Array Slot), lv_has ls 10 [(0, .int (zI (n))), (1, .int (zI (4))), (2, .int (zI (acc2))), (3, .int (zI ((b : Int) - 1))), (4, .int (zI (((n - (b - 1) * (b - 1) : Nat) : Int)))), (5, .int (zI ((b2 : Int) - 1)))] → W p l e (headSpec wsX7_ways ({ frames := 1, cells := 0, slots := 0, locals := 22 })).room s m ([.int (zI (n)), .int (zI (4))] : List Value).toArray below meth c s.heap [] 0 0 (MQ below (vp_Si (fun r => r = zI (wy 3 n (sqN n) : Int))) ([.int (zI (n)), .int (zI (4))] : List Value).toArray s 0 0 (fun _ => False)) (F0 m 80 ls []) := by
                intro NN
                induction NN with
                | zero =>
                  intro b2 acc2 q4 q5 hmu
                  exact absurd hmu (Nat.not_lt_zero _)
                | succ NN ih80 =>
                  intro b2 acc2 q4 q5 hmu ls hl
                  refine lv_iload hx hb dX7_ways_80 (lv_at hl 5 rfl) ?_
                  refine z_if_lt (tgt := 210) hx hb dX7_ways_82 (by decide) (by omega) (fun c82 => ?_) (fun c82 => ?_)
                  · refine lv_iinc (v := zI (((b - 1 : Nat) : Int) - 1)) (lv' := [(3, .int (zI (((b - 1 : Nat) : Int) - 1))), (0, .int (zI (n))), (1, .int (zI (4))), (2, .int (zI (acc2))), (4, .int (zI (((n - (b - 1) * (b - 1) : Nat) : Int)))), (5, .int (zI ((b2 : Int) - 1)))]) hx hb dX7_ways_210 hl (k := 3) rfl (zI_incr (by omega)) (by decide) rfl (fun ls hl => ?_)
                    refine lv_goto (tgt := 25) hx hb dX7_ways_213 (by decide) ?_
                    exact ih25 (b - 1) (acc2) (by omega) (by have z := sn_p (fun a => wy 2 (n - a * a) a) (show 0 < b by omega); have z2 : sn (fun a => wy 1 (n - (b - 1) * (b - 1) - a * a) a) b2 = 0 := sn_0 _ (by omega); omega) (by omega) _ (lv_sub hl [1, 2, 3, 0] rfl)
                  · have hs2 : (b2 - 1) * (b2 - 1) ≤ n - (b - 1) * (b - 1) := sq_of_le (by omega)
                    have b3 := sqN_le (show n - (b - 1) * (b - 1) - (b2 - 1) * (b2 - 1) ≤ 1000000 by omega)
                    refine lv_iload_n hx hb dX7_ways_85 rfl (lv_at hl 1 rfl) ?_
                    refine lv_iconst (v := zI 2) hx hb dX7_ways_86 rfl ?_
                    refine z_icmp_le (tgt := 210) hx hb dX7_ways_87 (by decide) (by omega) (by omega) (fun c87 => ?_) (fun c87 => ?_)
                    · exact absurd c87 (by omega)
                    · refine lv_iload hx hb dX7_ways_90 (lv_at hl 4 rfl) ?_
                      refine lv_iload hx hb dX7_ways_92 (lv_at hl 5 rfl) ?_
                      refine z_re (e2 := ((b2 - 1 : Nat) : Int)) (by omega) ?_
                      refine lv_iload hx hb dX7_ways_94 (lv_at hl 5 rfl) ?_
                      refine z_re (e2 := ((b2 - 1 : Nat) : Int)) (by omega) ?_
                      refine z_imul hx hb dX7_ways_96 ?_
                      refine z_re (e2 := (((b2 - 1) * (b2 - 1) : Nat) : Int)) (by rw [Int.natCast_mul]) ?_
                      refine z_isub hx hb dX7_ways_97 ?_
                      refine z_re (e2 := ((n - (b - 1) * (b - 1) - (b2 - 1) * (b2 - 1) : Nat) : Int)) (by omega) ?_
                      refine lv_istore (lv' := [(6, .int (zI (((n - (b - 1) * (b - 1) - (b2 - 1) * (b2 - 1) : Nat) : Int)))), (0, .int (zI (n))), (1, .int (zI (4))), (2, .int (zI (acc2))), (3, .int (zI ((b : Int) - 1))), (4, .int (zI (((n - (b - 1) * (b - 1) : Nat) : Int)))), (5, .int (zI ((b2 : Int) - 1)))]) hx hb dX7_ways_98 hl (by decide) rfl (fun ls hl => ?_)
                      refine lv_iload hx hb dX7_ways_100 (lv_at hl 0 rfl) ?_
                      refine vp_callSi (va_runS (As := [.int (zI (((n - (b - 1) * (b - 1) - (b2 - 1) * (b2 - 1) : Nat) : Int)))]) (rest := []) ⟨hx, hb, hml, hown, hts⟩ (c_X7_rootOf l (n - (b - 1) * (b - 1) - (b2 - 1) * (b2 - 1)) (by omega)) (va_cwS 1 hts gX7_ways_X7_rootOf rfl rfl rfl (by decide +kernel) ⟨Nat.le_of_ble_eq_true rfl, Nat.le_of_ble_eq_true rfl⟩) ⟨fun a U g mk q => q, fun U hU hW => ⟨rfl, trivial⟩⟩ rfl rfl hl.1 rfl (lv_room (Nat.le_of_ble_eq_true rfl)) dX7_ways_102 ⟨Nat.le_of_ble_eq_true rfl, Nat.le_of_ble_eq_true rfl⟩).run (fun r hr102 => ?_)
                      obtain rfl := hr102
                      refine lv_istore (lv' := [(7, .int (zI (((sqN (n - (b - 1) * (b - 1) - (b2 - 1) * (b2 - 1)) : Nat) : Int)))), (6, .int (zI (((n - (b - 1) * (b - 1) - (b2 - 1) * (b2 - 1) : Nat) : Int)))), (0, .int (zI (n))), (1, .int (zI (4))), (2, .int (zI (acc2))), (3, .int (zI ((b : Int) - 1))), (4, .int (zI (((n - (b - 1) * (b - 1) : Nat) : Int)))), (5, .int (zI ((b2 : Int) - 1)))]) hx hb dX7_ways_105 hl (by decide) rfl (fun ls hl => ?_)
                      refine lv_iload hx hb dX7_ways_107 (lv_at hl 0 rfl) ?_
                      refine lv_iload hx hb dX7_ways_109 (lv_at hl 7 rfl) ?_
                      refine z_re (e2 := ((b2 - 1 : Nat) : Int)) (by omega) ?_
                      refine z_icmp_le (tgt := 119) hx hb dX7_ways_111 (by decide) (by omega) (by omega) (fun c111 => ?_) (fun c111 => ?_)
                      · refine lv_iload hx hb dX7_ways_119 (lv_at hl 0 rfl) ?_
                        refine z_re (e2 := ((min (sqN (n - (b - 1) * (b - 1) - (b2 - 1) * (b2 - 1))) (b2 - 1) + 1 : Nat) : Int) - 1) (by omega) ?_
                        refine lv_istore (lv' := [(7, .int (zI (((min (sqN (n - (b - 1) * (b - 1) - (b2 - 1) * (b2 - 1))) (b2 - 1) + 1 : Nat) : Int) - 1))), (6, .int (zI (((n - (b - 1) * (b - 1) - (b2 - 1) * (b2 - 1) : Nat) : Int)))), (0, .int (zI (n))), (1, .int (zI (4))), (2, .int (zI (acc2))), (3, .int (zI ((b : Int) - 1))), (4, .int (zI (((n - (b - 1) * (b - 1) : Nat) : Int)))), (5, .int (zI ((b2 : Int) - 1)))]) hx hb dX7_ways_121 hl (by decide) rfl (fun ls hl => ?_)
                        refine lv_iload_n hx hb dX7_ways_123 rfl (lv_at hl 3 rfl) ?_
                        refine lv_iconst (v := zI 3) hx hb dX7_ways_124 rfl ?_
                        refine z_icmp_ne (tgt := 146) hx hb dX7_ways_125 (by decide) (by omega) (by omega) (fun c125 => ?_) (fun c125 => ?_)
                        · have lp146 : ∀ (NN : Nat) (b3 : Nat) (acc3 : Nat) (q6 : b3 ≤ min (sqN (n - (b - 1) * (b - 1) - (b2 - 1) * (b2 - 1))) (b2 - 1) + 1) (q7 : acc3 + sn (fun a => wy 0 (n - (b - 1) * (b - 1) - (b2 - 1) * (b2 - 1) - a * a) a) b3 = acc2 + wy 1 (n - (b - 1) * (b - 1) - (b2 - 1) * (b2 - 1)) (b2 - 1)), b3 < NN → ∀ (ls : Array Slot), lv_has ls 10 [(0, .int (zI (n))), (1, .int (zI (4))), (2, .int (zI (acc3))), (3, .int (zI ((b : Int) - 1))), (4, .int (zI (((n - (b - 1) * (b - 1) : Nat) : Int)))), (5, .int (zI ((b2 : Int) - 1))), (6, .int (zI (((n - (b - 1) * (b - 1) - (b2 - 1) * (b2 - 1) : Nat) : Int)))), (7, .int (zI ((b3 : Int) - 1)))] → W p l e (headSpec wsX7_ways ({ frames := 1, cells := 0, slots := 0, locals := 22 })).room s m ([.int (zI (n)), .int (zI (4))] : List Value).toArray below meth c s.heap [] 0 0 (MQ below (vp_Si (fun r => r = zI (wy 3 n (sqN n) : Int))) ([.int (zI (n)), .int (zI (4))] : List Value).toArray s 0 0 (fun _ => False)) (F0 m 146 ls []) := by
                            intro NN
                            induction NN with
                            | zero =>
                              intro b3 acc3 q6 q7 hmu
                              exact absurd hmu (Nat.not_lt_zero _)
                            | succ NN ih146 =>
                              intro b3 acc3 q6 q7 hmu ls hl
                              refine lv_iload hx hb dX7_ways_146 (lv_at hl 7 rfl) ?_
                              refine z_if_lt (tgt := 204) hx hb dX7_ways_148 (by decide) (by omega) (fun c148 => ?_) (fun c148 => ?_)
                              · refine lv_iinc (v := zI (((b2 - 1 : Nat) : Int) - 1)) (lv' := [(5, .int (zI (((b2 - 1 : Nat) : Int) - 1))), (0, .int (zI (n))), (1, .int (zI (4))), (2, .int (zI (acc3))), (3, .int (zI ((b : Int) - 1))), (4, .int (zI (((n - (b - 1) * (b - 1) : Nat) : Int)))), (6, .int (zI (((n - (b - 1) * (b - 1) - (b2 - 1) * (b2 - 1) : Nat) : Int)))), (7, .int (zI ((b3 : Int) - 1)))]) hx hb dX7_ways_204 hl (k := 5) rfl (zI_incr (by omega)) (by decide) rfl (fun ls hl => ?_)
                                refine lv_goto (tgt := 80) hx hb dX7_ways_207 (by decide) ?_
                                exact ih80 (b2 - 1) (acc3) (by omega) (by have z := sn_p (fun a => wy 1 (n - (b - 1) * (b - 1) - a * a) a) (show 0 < b2 by omega); have z2 : sn (fun a => wy 0 (n - (b - 1) * (b - 1) - (b2 - 1) * (b2 - 1) - a * a) a) b3 = 0 := sn_0 _ (by omega); omega) (by omega) _ (lv_sub hl [1, 2, 3, 4, 5, 0] rfl)
                              · have hs3 : (b3 - 1) * (b3 - 1) ≤ n - (b - 1) * (b - 1) - (b2 - 1) * (b2 - 1) := sq_of_le (by omega)
                                have b5 := sqN_le (show n - (b - 1) * (b - 1) - (b2 - 1) * (b2 - 1) - (b3 - 1) * (b3 - 1) ≤ 1000000 by omega)
                                have b6 := (sqN_spec (n - (b - 1) * (b - 1) - (b2 - 1) * (b2 - 1) - (b3 - 1) * (b3 - 1))).1
                                refine lv_iload_n hx hb dX7_ways_151 rfl (lv_at hl 1 rfl) ?_
                                refine lv_iconst (v := zI 3) hx hb dX7_ways_152 rfl ?_
                                refine z_icmp_le (tgt := 204) hx hb dX7_ways_153 (by decide) (by omega) (by omega) (fun c153 => ?_) (fun c153 => ?_)
                                · exact absurd c153 (by omega)
                                · refine lv_iload hx hb dX7_ways_156 (lv_at hl 6 rfl) ?_
                                  refine lv_iload hx hb dX7_ways_158 (lv_at hl 7 rfl) ?_
                                  refine z_re (e2 := ((b3 - 1 : Nat) : Int)) (by omega) ?_
                                  refine lv_iload hx hb dX7_ways_160 (lv_at hl 7 rfl) ?_
                                  refine z_re (e2 := ((b3 - 1 : Nat) : Int)) (by omega) ?_
                                  refine z_imul hx hb dX7_ways_162 ?_
                                  refine z_re (e2 := (((b3 - 1) * (b3 - 1) : Nat) : Int)) (by rw [Int.natCast_mul]) ?_
                                  refine z_isub hx hb dX7_ways_163 ?_
                                  refine z_re (e2 := ((n - (b - 1) * (b - 1) - (b2 - 1) * (b2 - 1) - (b3 - 1) * (b3 - 1) : Nat) : Int)) (by omega) ?_
                                  refine lv_istore (lv' := [(8, .int (zI (((n - (b - 1) * (b - 1) - (b2 - 1) * (b2 - 1) - (b3 - 1) * (b3 - 1) : Nat) : Int)))), (0, .int (zI (n))), (1, .int (zI (4))), (2, .int (zI (acc3))), (3, .int (zI ((b : Int) - 1))), (4, .int (zI (((n - (b - 1) * (b - 1) : Nat) : Int)))), (5, .int (zI ((b2 : Int) - 1))), (6, .int (zI (((n - (b - 1) * (b - 1) - (b2 - 1) * (b2 - 1) : Nat) : Int)))), (7, .int (zI ((b3 : Int) - 1)))]) hx hb dX7_ways_164 hl (by decide) rfl (fun ls hl => ?_)
                                  refine lv_iload hx hb dX7_ways_166 (lv_at hl 0 rfl) ?_
                                  refine vp_callSi (va_runS (As := [.int (zI (((n - (b - 1) * (b - 1) - (b2 - 1) * (b2 - 1) - (b3 - 1) * (b3 - 1) : Nat) : Int)))]) (rest := []) ⟨hx, hb, hml, hown, hts⟩ (c_X7_rootOf l (n - (b - 1) * (b - 1) - (b2 - 1) * (b2 - 1) - (b3 - 1) * (b3 - 1)) (by omega)) (va_cwS 1 hts gX7_ways_X7_rootOf rfl rfl rfl (by decide +kernel) ⟨Nat.le_of_ble_eq_true rfl, Nat.le_of_ble_eq_true rfl⟩) ⟨fun a U g mk q => q, fun U hU hW => ⟨rfl, trivial⟩⟩ rfl rfl hl.1 rfl (lv_room (Nat.le_of_ble_eq_true rfl)) dX7_ways_168 ⟨Nat.le_of_ble_eq_true rfl, Nat.le_of_ble_eq_true rfl⟩).run (fun r hr168 => ?_)
                                  obtain rfl := hr168
                                  refine lv_istore (lv' := [(9, .int (zI (((sqN (n - (b - 1) * (b - 1) - (b2 - 1) * (b2 - 1) - (b3 - 1) * (b3 - 1)) : Nat) : Int)))), (8, .int (zI (((n - (b - 1) * (b - 1) - (b2 - 1) * (b2 - 1) - (b3 - 1) * (b3 - 1) : Nat) : Int)))), (0, .int (zI (n))), (1, .int (zI (4))), (2, .int (zI (acc3))), (3, .int (zI ((b : Int) - 1))), (4, .int (zI (((n - (b - 1) * (b - 1) : Nat) : Int)))), (5, .int (zI ((b2 : Int) - 1))), (6, .int (zI (((n - (b - 1) * (b - 1) - (b2 - 1) * (b2 - 1) : Nat) : Int)))), (7, .int (zI ((b3 : Int) - 1)))]) hx hb dX7_ways_171 hl (by decide) rfl (fun ls hl => ?_)
                                  refine lv_iload_n hx hb dX7_ways_173 rfl (lv_at hl 4 rfl) ?_
                                  refine lv_iload hx hb dX7_ways_174 (lv_at hl 0 rfl) ?_
                                  refine lv_iload hx hb dX7_ways_176 (lv_at hl 9 rfl) ?_
                                  refine z_re (e2 := ((b3 - 1 : Nat) : Int)) (by omega) ?_
                                  refine z_icmp_gt (tgt := 195) hx hb dX7_ways_178 (by decide) (by omega) (by omega) (fun c178 => ?_) (fun c178 => ?_)
                                  · refine lv_iconst (v := zI 0) hx hb dX7_ways_195 rfl ?_
                                    refine z_iadd hx hb dX7_ways_196 ?_
                                    refine z_re (e2 := ((acc3 + wy 0 (n - (b - 1) * (b - 1) - (b2 - 1) * (b2 - 1) - (b3 - 1) * (b3 - 1)) (b3 - 1) : Nat) : Int)) (by rw [w1_n (fun z => by omega)]; omega) ?_
                                    refine lv_istore_n (lv' := [(2, .int (zI (((acc3 + wy 0 (n - (b - 1) * (b - 1) - (b2 - 1) * (b2 - 1) - (b3 - 1) * (b3 - 1)) (b3 - 1) : Nat) : Int)))), (9, .int (zI (((sqN (n - (b - 1) * (b - 1) - (b2 - 1) * (b2 - 1) - (b3 - 1) * (b3 - 1)) : Nat) : Int)))), (8, .int (zI (((n - (b - 1) * (b - 1) - (b2 - 1) * (b2 - 1) - (b3 - 1) * (b3 - 1) : Nat) : Int)))), (0, .int (zI (n))), (1, .int (zI (4))), (3, .int (zI ((b : Int) - 1))), (4, .int (zI (((n - (b - 1) * (b - 1) : Nat) : Int)))), (5, .int (zI ((b2 : Int) - 1))), (6, .int (zI (((n - (b - 1) * (b - 1) - (b2 - 1) * (b2 - 1) : Nat) : Int)))), (7, .int (zI ((b3 : Int) - 1)))]) hx hb dX7_ways_197 rfl hl (by decide) rfl (fun ls hl => ?_)
                                    refine lv_iinc (v := zI (((b3 - 1 : Nat) : Int) - 1)) (lv' := [(7, .int (zI (((b3 - 1 : Nat) : Int) - 1))), (2, .int (zI (((acc3 + wy 0 (n - (b - 1) * (b - 1) - (b2 - 1) * (b2 - 1) - (b3 - 1) * (b3 - 1)) (b3 - 1) : Nat) : Int)))), (9, .int (zI (((sqN (n - (b - 1) * (b - 1) - (b2 - 1) * (b2 - 1) - (b3 - 1) * (b3 - 1)) : Nat) : Int)))), (8, .int (zI (((n - (b - 1) * (b - 1) - (b2 - 1) * (b2 - 1) - (b3 - 1) * (b3 - 1) : Nat) : Int)))), (0, .int (zI (n))), (1, .int (zI (4))), (3, .int (zI ((b : Int) - 1))), (4, .int (zI (((n - (b - 1) * (b - 1) : Nat) : Int)))), (5, .int (zI ((b2 : Int) - 1))), (6, .int (zI (((n - (b - 1) * (b - 1) - (b2 - 1) * (b2 - 1) : Nat) : Int))))]) hx hb dX7_ways_198 hl (k := 9) rfl (zI_incr (by omega)) (by decide) rfl (fun ls hl => ?_)
                                    refine lv_goto (tgt := 146) hx hb dX7_ways_201 (by decide) ?_
                                    exact ih146 (b3 - 1) (acc3 + wy 0 (n - (b - 1) * (b - 1) - (b2 - 1) * (b2 - 1) - (b3 - 1) * (b3 - 1)) (b3 - 1)) (by omega) (by have z := sn_p (fun a => wy 0 (n - (b - 1) * (b - 1) - (b2 - 1) * (b2 - 1) - a * a) a) (show 0 < b3 by omega); omega) (by omega) _ (lv_sub hl [4, 5, 1, 6, 7, 8, 9, 0] rfl)
                                  · refine lv_iload hx hb dX7_ways_181 (lv_at hl 0 rfl) ?_
                                    refine lv_iload hx hb dX7_ways_183 (lv_at hl 0 rfl) ?_
                                    refine z_imul hx hb dX7_ways_185 ?_
                                    refine z_re (e2 := ((sqN (n - (b - 1) * (b - 1) - (b2 - 1) * (b2 - 1) - (b3 - 1) * (b3 - 1)) * sqN (n - (b - 1) * (b - 1) - (b2 - 1) * (b2 - 1) - (b3 - 1) * (b3 - 1)) : Nat) : Int)) (by rw [Int.natCast_mul]) ?_
                                    refine lv_iload hx hb dX7_ways_186 (lv_at hl 1 rfl) ?_
                                    refine z_icmp_ne (tgt := 195) hx hb dX7_ways_188 (by decide) (by omega) (by omega) (fun c188 => ?_) (fun c188 => ?_)
                                    · refine lv_iconst (v := zI 0) hx hb dX7_ways_195 rfl ?_
                                      refine z_iadd hx hb dX7_ways_196 ?_
                                      refine z_re (e2 := ((acc3 + wy 0 (n - (b - 1) * (b - 1) - (b2 - 1) * (b2 - 1) - (b3 - 1) * (b3 - 1)) (b3 - 1) : Nat) : Int)) (by rw [w1_n (fun z => c188 (by rw [z.2]))]; omega) ?_
                                      refine lv_istore_n (lv' := [(2, .int (zI (((acc3 + wy 0 (n - (b - 1) * (b - 1) - (b2 - 1) * (b2 - 1) - (b3 - 1) * (b3 - 1)) (b3 - 1) : Nat) : Int)))), (9, .int (zI (((sqN (n - (b - 1) * (b - 1) - (b2 - 1) * (b2 - 1) - (b3 - 1) * (b3 - 1)) : Nat) : Int)))), (8, .int (zI (((n - (b - 1) * (b - 1) - (b2 - 1) * (b2 - 1) - (b3 - 1) * (b3 - 1) : Nat) : Int)))), (0, .int (zI (n))), (1, .int (zI (4))), (3, .int (zI ((b : Int) - 1))), (4, .int (zI (((n - (b - 1) * (b - 1) : Nat) : Int)))), (5, .int (zI ((b2 : Int) - 1))), (6, .int (zI (((n - (b - 1) * (b - 1) - (b2 - 1) * (b2 - 1) : Nat) : Int)))), (7, .int (zI ((b3 : Int) - 1)))]) hx hb dX7_ways_197 rfl hl (by decide) rfl (fun ls hl => ?_)
                                      refine lv_iinc (v := zI (((b3 - 1 : Nat) : Int) - 1)) (lv' := [(7, .int (zI (((b3 - 1 : Nat) : Int) - 1))), (2, .int (zI (((acc3 + wy 0 (n - (b - 1) * (b - 1) - (b2 - 1) * (b2 - 1) - (b3 - 1) * (b3 - 1)) (b3 - 1) : Nat) : Int)))), (9, .int (zI (((sqN (n - (b - 1) * (b - 1) - (b2 - 1) * (b2 - 1) - (b3 - 1) * (b3 - 1)) : Nat) : Int)))), (8, .int (zI (((n - (b - 1) * (b - 1) - (b2 - 1) * (b2 - 1) - (b3 - 1) * (b3 - 1) : Nat) : Int)))), (0, .int (zI (n))), (1, .int (zI (4))), (3, .int (zI ((b : Int) - 1))), (4, .int (zI (((n - (b - 1) * (b - 1) : Nat) : Int)))), (5, .int (zI ((b2 : Int) - 1))), (6, .int (zI (((n - (b - 1) * (b - 1) - (b2 - 1) * (b2 - 1) : Nat) : Int))))]) hx hb dX7_ways_198 hl (k := 9) rfl (zI_incr (by omega)) (by decide) rfl (fun ls hl => ?_)
                                      refine lv_goto (tgt := 146) hx hb dX7_ways_201 (by decide) ?_
                                      exact ih146 (b3 - 1) (acc3 + wy 0 (n - (b - 1) * (b - 1) - (b2 - 1) * (b2 - 1) - (b3 - 1) * (b3 - 1)) (b3 - 1)) (by omega) (by have z := sn_p (fun a => wy 0 (n - (b - 1) * (b - 1) - (b2 - 1) * (b2 - 1) - a * a) a) (show 0 < b3 by omega); omega) (by omega) _ (lv_sub hl [4, 5, 1, 6, 7, 8, 9, 0] rfl)
                                    · refine lv_iconst (v := zI 1) hx hb dX7_ways_191 rfl ?_
                                      refine lv_goto (tgt := 196) hx hb dX7_ways_192 (by decide) ?_
                                      refine z_iadd hx hb dX7_ways_196 ?_
                                      refine z_re (e2 := ((acc3 + wy 0 (n - (b - 1) * (b - 1) - (b2 - 1) * (b2 - 1) - (b3 - 1) * (b3 - 1)) (b3 - 1) : Nat) : Int)) (by rw [w1_y ⟨by omega, Int.ofNat.inj c188⟩]; omega) ?_
                                      refine lv_istore_n (lv' := [(2, .int (zI (((acc3 + wy 0 (n - (b - 1) * (b - 1) - (b2 - 1) * (b2 - 1) - (b3 - 1) * (b3 - 1)) (b3 - 1) : Nat) : Int)))), (9, .int (zI (((sqN (n - (b - 1) * (b - 1) - (b2 - 1) * (b2 - 1) - (b3 - 1) * (b3 - 1)) : Nat) : Int)))), (8, .int (zI (((n - (b - 1) * (b - 1) - (b2 - 1) * (b2 - 1) - (b3 - 1) * (b3 - 1) : Nat) : Int)))), (0, .int (zI (n))), (1, .int (zI (4))), (3, .int (zI ((b : Int) - 1))), (4, .int (zI (((n - (b - 1) * (b - 1) : Nat) : Int)))), (5, .int (zI ((b2 : Int) - 1))), (6, .int (zI (((n - (b - 1) * (b - 1) - (b2 - 1) * (b2 - 1) : Nat) : Int)))), (7, .int (zI ((b3 : Int) - 1)))]) hx hb dX7_ways_197 rfl hl (by decide) rfl (fun ls hl => ?_)
                                      refine lv_iinc (v := zI (((b3 - 1 : Nat) : Int) - 1)) (lv' := [(7, .int (zI (((b3 - 1 : Nat) : Int) - 1))), (2, .int (zI (((acc3 + wy 0 (n - (b - 1) * (b - 1) - (b2 - 1) * (b2 - 1) - (b3 - 1) * (b3 - 1)) (b3 - 1) : Nat) : Int)))), (9, .int (zI (((sqN (n - (b - 1) * (b - 1) - (b2 - 1) * (b2 - 1) - (b3 - 1) * (b3 - 1)) : Nat) : Int)))), (8, .int (zI (((n - (b - 1) * (b - 1) - (b2 - 1) * (b2 - 1) - (b3 - 1) * (b3 - 1) : Nat) : Int)))), (0, .int (zI (n))), (1, .int (zI (4))), (3, .int (zI ((b : Int) - 1))), (4, .int (zI (((n - (b - 1) * (b - 1) : Nat) : Int)))), (5, .int (zI ((b2 : Int) - 1))), (6, .int (zI (((n - (b - 1) * (b - 1) - (b2 - 1) * (b2 - 1) : Nat) : Int))))]) hx hb dX7_ways_198 hl (k := 9) rfl (zI_incr (by omega)) (by decide) rfl (fun ls hl => ?_)
                                      refine lv_goto (tgt := 146) hx hb dX7_ways_201 (by decide) ?_
                                      exact ih146 (b3 - 1) (acc3 + wy 0 (n - (b - 1) * (b - 1) - (b2 - 1) * (b2 - 1) - (b3 - 1) * (b3 - 1)) (b3 - 1)) (by omega) (by have z := sn_p (fun a => wy 0 (n - (b - 1) * (b - 1) - (b2 - 1) * (b2 - 1) - a * a) a) (show 0 < b3 by omega); omega) (by omega) _ (lv_sub hl [4, 5, 1, 6, 7, 8, 9, 0] rfl)
                          exact lp146 _ (min (sqN (n - (b - 1) * (b - 1) - (b2 - 1) * (b2 - 1))) (b2 - 1) + 1) (acc2) (by omega) (by rw [wy_s, Nat.min_comm (sqN (n - (b - 1) * (b - 1) - (b2 - 1) * (b2 - 1))) (b2 - 1)]) (Nat.lt_succ_self _) _ (lv_sub hl [2, 3, 4, 5, 6, 7, 1, 0] rfl)
                        · exact absurd c125 (by omega)
                      · refine lv_iload hx hb dX7_ways_114 (lv_at hl 7 rfl) ?_
                        refine z_re (e2 := ((min (sqN (n - (b - 1) * (b - 1) - (b2 - 1) * (b2 - 1))) (b2 - 1) + 1 : Nat) : Int) - 1) (by omega) ?_
                        refine lv_goto (tgt := 121) hx hb dX7_ways_116 (by decide) ?_
                        refine lv_istore (lv' := [(7, .int (zI (((min (sqN (n - (b - 1) * (b - 1) - (b2 - 1) * (b2 - 1))) (b2 - 1) + 1 : Nat) : Int) - 1))), (6, .int (zI (((n - (b - 1) * (b - 1) - (b2 - 1) * (b2 - 1) : Nat) : Int)))), (0, .int (zI (n))), (1, .int (zI (4))), (2, .int (zI (acc2))), (3, .int (zI ((b : Int) - 1))), (4, .int (zI (((n - (b - 1) * (b - 1) : Nat) : Int)))), (5, .int (zI ((b2 : Int) - 1)))]) hx hb dX7_ways_121 hl (by decide) rfl (fun ls hl => ?_)
                        refine lv_iload_n hx hb dX7_ways_123 rfl (lv_at hl 3 rfl) ?_
                        refine lv_iconst (v := zI 3) hx hb dX7_ways_124 rfl ?_
                        refine z_icmp_ne (tgt := 146) hx hb dX7_ways_125 (by decide) (by omega) (by omega) (fun c125 => ?_) (fun c125 => ?_)
                        · have lp146 : ∀ (NN : Nat) (b3 : Nat) (acc3 : Nat) (q6 : b3 ≤ min (sqN (n - (b - 1) * (b - 1) - (b2 - 1) * (b2 - 1))) (b2 - 1) + 1) (q7 : acc3 + sn (fun a => wy 0 (n - (b - 1) * (b - 1) - (b2 - 1) * (b2 - 1) - a * a) a) b3 = acc2 + wy 1 (n - (b - 1) * (b - 1) - (b2 - 1) * (b2 - 1)) (b2 - 1)), b3 < NN → ∀ (ls : Array Slot), lv_has ls 10 [(0, .int (zI (n))), (1, .int (zI (4))), (2, .int (zI (acc3))), (3, .int (zI ((b : Int) - 1))), (4, .int (zI (((n - (b - 1) * (b - 1) : Nat) : Int)))), (5, .int (zI ((b2 : Int) - 1))), (6, .int (zI (((n - (b - 1) * (b - 1) - (b2 - 1) * (b2 - 1) : Nat) : Int)))), (7, .int (zI ((b3 : Int) - 1)))] → W p l e (headSpec wsX7_ways ({ frames := 1, cells := 0, slots := 0, locals := 22 })).room s m ([.int (zI (n)), .int (zI (4))] : List Value).toArray below meth c s.heap [] 0 0 (MQ below (vp_Si (fun r => r = zI (wy 3 n (sqN n) : Int))) ([.int (zI (n)), .int (zI (4))] : List Value).toArray s 0 0 (fun _ => False)) (F0 m 146 ls []) := by
                            intro NN
                            induction NN with
                            | zero =>
                              intro b3 acc3 q6 q7 hmu
                              exact absurd hmu (Nat.not_lt_zero _)
                            | succ NN ih146 =>
                              intro b3 acc3 q6 q7 hmu ls hl
                              refine lv_iload hx hb dX7_ways_146 (lv_at hl 7 rfl) ?_
                              refine z_if_lt (tgt := 204) hx hb dX7_ways_148 (by decide) (by omega) (fun c148 => ?_) (fun c148 => ?_)
                              · refine lv_iinc (v := zI (((b2 - 1 : Nat) : Int) - 1)) (lv' := [(5, .int (zI (((b2 - 1 : Nat) : Int) - 1))), (0, .int (zI (n))), (1, .int (zI (4))), (2, .int (zI (acc3))), (3, .int (zI ((b : Int) - 1))), (4, .int (zI (((n - (b - 1) * (b - 1) : Nat) : Int)))), (6, .int (zI (((n - (b - 1) * (b - 1) - (b2 - 1) * (b2 - 1) : Nat) : Int)))), (7, .int (zI ((b3 : Int) - 1)))]) hx hb dX7_ways_204 hl (k := 5) rfl (zI_incr (by omega)) (by decide) rfl (fun ls hl => ?_)
                                refine lv_goto (tgt := 80) hx hb dX7_ways_207 (by decide) ?_
                                exact ih80 (b2 - 1) (acc3) (by omega) (by have z := sn_p (fun a => wy 1 (n - (b - 1) * (b - 1) - a * a) a) (show 0 < b2 by omega); have z2 : sn (fun a => wy 0 (n - (b - 1) * (b - 1) - (b2 - 1) * (b2 - 1) - a * a) a) b3 = 0 := sn_0 _ (by omega); omega) (by omega) _ (lv_sub hl [1, 2, 3, 4, 5, 0] rfl)
                              · have hs3 : (b3 - 1) * (b3 - 1) ≤ n - (b - 1) * (b - 1) - (b2 - 1) * (b2 - 1) := sq_of_le (by omega)
                                have b5 := sqN_le (show n - (b - 1) * (b - 1) - (b2 - 1) * (b2 - 1) - (b3 - 1) * (b3 - 1) ≤ 1000000 by omega)
                                have b6 := (sqN_spec (n - (b - 1) * (b - 1) - (b2 - 1) * (b2 - 1) - (b3 - 1) * (b3 - 1))).1
                                refine lv_iload_n hx hb dX7_ways_151 rfl (lv_at hl 1 rfl) ?_
                                refine lv_iconst (v := zI 3) hx hb dX7_ways_152 rfl ?_
                                refine z_icmp_le (tgt := 204) hx hb dX7_ways_153 (by decide) (by omega) (by omega) (fun c153 => ?_) (fun c153 => ?_)
                                · exact absurd c153 (by omega)
                                · refine lv_iload hx hb dX7_ways_156 (lv_at hl 6 rfl) ?_
                                  refine lv_iload hx hb dX7_ways_158 (lv_at hl 7 rfl) ?_
                                  refine z_re (e2 := ((b3 - 1 : Nat) : Int)) (by omega) ?_
                                  refine lv_iload hx hb dX7_ways_160 (lv_at hl 7 rfl) ?_
                                  refine z_re (e2 := ((b3 - 1 : Nat) : Int)) (by omega) ?_
                                  refine z_imul hx hb dX7_ways_162 ?_
                                  refine z_re (e2 := (((b3 - 1) * (b3 - 1) : Nat) : Int)) (by rw [Int.natCast_mul]) ?_
                                  refine z_isub hx hb dX7_ways_163 ?_
                                  refine z_re (e2 := ((n - (b - 1) * (b - 1) - (b2 - 1) * (b2 - 1) - (b3 - 1) * (b3 - 1) : Nat) : Int)) (by omega) ?_
                                  refine lv_istore (lv' := [(8, .int (zI (((n - (b - 1) * (b - 1) - (b2 - 1) * (b2 - 1) - (b3 - 1) * (b3 - 1) : Nat) : Int)))), (0, .int (zI (n))), (1, .int (zI (4))), (2, .int (zI (acc3))), (3, .int (zI ((b : Int) - 1))), (4, .int (zI (((n - (b - 1) * (b - 1) : Nat) : Int)))), (5, .int (zI ((b2 : Int) - 1))), (6, .int (zI (((n - (b - 1) * (b - 1) - (b2 - 1) * (b2 - 1) : Nat) : Int)))), (7, .int (zI ((b3 : Int) - 1)))]) hx hb dX7_ways_164 hl (by decide) rfl (fun ls hl => ?_)
                                  refine lv_iload hx hb dX7_ways_166 (lv_at hl 0 rfl) ?_
                                  refine vp_callSi (va_runS (As := [.int (zI (((n - (b - 1) * (b - 1) - (b2 - 1) * (b2 - 1) - (b3 - 1) * (b3 - 1) : Nat) : Int)))]) (rest := []) ⟨hx, hb, hml, hown, hts⟩ (c_X7_rootOf l (n - (b - 1) * (b - 1) - (b2 - 1) * (b2 - 1) - (b3 - 1) * (b3 - 1)) (by omega)) (va_cwS 1 hts gX7_ways_X7_rootOf rfl rfl rfl (by decide +kernel) ⟨Nat.le_of_ble_eq_true rfl, Nat.le_of_ble_eq_true rfl⟩) ⟨fun a U g mk q => q, fun U hU hW => ⟨rfl, trivial⟩⟩ rfl rfl hl.1 rfl (lv_room (Nat.le_of_ble_eq_true rfl)) dX7_ways_168 ⟨Nat.le_of_ble_eq_true rfl, Nat.le_of_ble_eq_true rfl⟩).run (fun r hr168 => ?_)
                                  obtain rfl := hr168
                                  refine lv_istore (lv' := [(9, .int (zI (((sqN (n - (b - 1) * (b - 1) - (b2 - 1) * (b2 - 1) - (b3 - 1) * (b3 - 1)) : Nat) : Int)))), (8, .int (zI (((n - (b - 1) * (b - 1) - (b2 - 1) * (b2 - 1) - (b3 - 1) * (b3 - 1) : Nat) : Int)))), (0, .int (zI (n))), (1, .int (zI (4))), (2, .int (zI (acc3))), (3, .int (zI ((b : Int) - 1))), (4, .int (zI (((n - (b - 1) * (b - 1) : Nat) : Int)))), (5, .int (zI ((b2 : Int) - 1))), (6, .int (zI (((n - (b - 1) * (b - 1) - (b2 - 1) * (b2 - 1) : Nat) : Int)))), (7, .int (zI ((b3 : Int) - 1)))]) hx hb dX7_ways_171 hl (by decide) rfl (fun ls hl => ?_)
                                  refine lv_iload_n hx hb dX7_ways_173 rfl (lv_at hl 4 rfl) ?_
                                  refine lv_iload hx hb dX7_ways_174 (lv_at hl 0 rfl) ?_
                                  refine lv_iload hx hb dX7_ways_176 (lv_at hl 9 rfl) ?_
                                  refine z_re (e2 := ((b3 - 1 : Nat) : Int)) (by omega) ?_
                                  refine z_icmp_gt (tgt := 195) hx hb dX7_ways_178 (by decide) (by omega) (by omega) (fun c178 => ?_) (fun c178 => ?_)
                                  · refine lv_iconst (v := zI 0) hx hb dX7_ways_195 rfl ?_
                                    refine z_iadd hx hb dX7_ways_196 ?_
                                    refine z_re (e2 := ((acc3 + wy 0 (n - (b - 1) * (b - 1) - (b2 - 1) * (b2 - 1) - (b3 - 1) * (b3 - 1)) (b3 - 1) : Nat) : Int)) (by rw [w1_n (fun z => by omega)]; omega) ?_
                                    refine lv_istore_n (lv' := [(2, .int (zI (((acc3 + wy 0 (n - (b - 1) * (b - 1) - (b2 - 1) * (b2 - 1) - (b3 - 1) * (b3 - 1)) (b3 - 1) : Nat) : Int)))), (9, .int (zI (((sqN (n - (b - 1) * (b - 1) - (b2 - 1) * (b2 - 1) - (b3 - 1) * (b3 - 1)) : Nat) : Int)))), (8, .int (zI (((n - (b - 1) * (b - 1) - (b2 - 1) * (b2 - 1) - (b3 - 1) * (b3 - 1) : Nat) : Int)))), (0, .int (zI (n))), (1, .int (zI (4))), (3, .int (zI ((b : Int) - 1))), (4, .int (zI (((n - (b - 1) * (b - 1) : Nat) : Int)))), (5, .int (zI ((b2 : Int) - 1))), (6, .int (zI (((n - (b - 1) * (b - 1) - (b2 - 1) * (b2 - 1) : Nat) : Int)))), (7, .int (zI ((b3 : Int) - 1)))]) hx hb dX7_ways_197 rfl hl (by decide) rfl (fun ls hl => ?_)
                                    refine lv_iinc (v := zI (((b3 - 1 : Nat) : Int) - 1)) (lv' := [(7, .int (zI (((b3 - 1 : Nat) : Int) - 1))), (2, .int (zI (((acc3 + wy 0 (n - (b - 1) * (b - 1) - (b2 - 1) * (b2 - 1) - (b3 - 1) * (b3 - 1)) (b3 - 1) : Nat) : Int)))), (9, .int (zI (((sqN (n - (b - 1) * (b - 1) - (b2 - 1) * (b2 - 1) - (b3 - 1) * (b3 - 1)) : Nat) : Int)))), (8, .int (zI (((n - (b - 1) * (b - 1) - (b2 - 1) * (b2 - 1) - (b3 - 1) * (b3 - 1) : Nat) : Int)))), (0, .int (zI (n))), (1, .int (zI (4))), (3, .int (zI ((b : Int) - 1))), (4, .int (zI (((n - (b - 1) * (b - 1) : Nat) : Int)))), (5, .int (zI ((b2 : Int) - 1))), (6, .int (zI (((n - (b - 1) * (b - 1) - (b2 - 1) * (b2 - 1) : Nat) : Int))))]) hx hb dX7_ways_198 hl (k := 9) rfl (zI_incr (by omega)) (by decide) rfl (fun ls hl => ?_)
                                    refine lv_goto (tgt := 146) hx hb dX7_ways_201 (by decide) ?_
                                    exact ih146 (b3 - 1) (acc3 + wy 0 (n - (b - 1) * (b - 1) - (b2 - 1) * (b2 - 1) - (b3 - 1) * (b3 - 1)) (b3 - 1)) (by omega) (by have z := sn_p (fun a => wy 0 (n - (b - 1) * (b - 1) - (b2 - 1) * (b2 - 1) - a * a) a) (show 0 < b3 by omega); omega) (by omega) _ (lv_sub hl [4, 5, 1, 6, 7, 8, 9, 0] rfl)
                                  · refine lv_iload hx hb dX7_ways_181 (lv_at hl 0 rfl) ?_
                                    refine lv_iload hx hb dX7_ways_183 (lv_at hl 0 rfl) ?_
                                    refine z_imul hx hb dX7_ways_185 ?_
                                    refine z_re (e2 := ((sqN (n - (b - 1) * (b - 1) - (b2 - 1) * (b2 - 1) - (b3 - 1) * (b3 - 1)) * sqN (n - (b - 1) * (b - 1) - (b2 - 1) * (b2 - 1) - (b3 - 1) * (b3 - 1)) : Nat) : Int)) (by rw [Int.natCast_mul]) ?_
                                    refine lv_iload hx hb dX7_ways_186 (lv_at hl 1 rfl) ?_
                                    refine z_icmp_ne (tgt := 195) hx hb dX7_ways_188 (by decide) (by omega) (by omega) (fun c188 => ?_) (fun c188 => ?_)
                                    · refine lv_iconst (v := zI 0) hx hb dX7_ways_195 rfl ?_
                                      refine z_iadd hx hb dX7_ways_196 ?_
                                      refine z_re (e2 := ((acc3 + wy 0 (n - (b - 1) * (b - 1) - (b2 - 1) * (b2 - 1) - (b3 - 1) * (b3 - 1)) (b3 - 1) : Nat) : Int)) (by rw [w1_n (fun z => c188 (by rw [z.2]))]; omega) ?_
                                      refine lv_istore_n (lv' := [(2, .int (zI (((acc3 + wy 0 (n - (b - 1) * (b - 1) - (b2 - 1) * (b2 - 1) - (b3 - 1) * (b3 - 1)) (b3 - 1) : Nat) : Int)))), (9, .int (zI (((sqN (n - (b - 1) * (b - 1) - (b2 - 1) * (b2 - 1) - (b3 - 1) * (b3 - 1)) : Nat) : Int)))), (8, .int (zI (((n - (b - 1) * (b - 1) - (b2 - 1) * (b2 - 1) - (b3 - 1) * (b3 - 1) : Nat) : Int)))), (0, .int (zI (n))), (1, .int (zI (4))), (3, .int (zI ((b : Int) - 1))), (4, .int (zI (((n - (b - 1) * (b - 1) : Nat) : Int)))), (5, .int (zI ((b2 : Int) - 1))), (6, .int (zI (((n - (b - 1) * (b - 1) - (b2 - 1) * (b2 - 1) : Nat) : Int)))), (7, .int (zI ((b3 : Int) - 1)))]) hx hb dX7_ways_197 rfl hl (by decide) rfl (fun ls hl => ?_)
                                      refine lv_iinc (v := zI (((b3 - 1 : Nat) : Int) - 1)) (lv' := [(7, .int (zI (((b3 - 1 : Nat) : Int) - 1))), (2, .int (zI (((acc3 + wy 0 (n - (b - 1) * (b - 1) - (b2 - 1) * (b2 - 1) - (b3 - 1) * (b3 - 1)) (b3 - 1) : Nat) : Int)))), (9, .int (zI (((sqN (n - (b - 1) * (b - 1) - (b2 - 1) * (b2 - 1) - (b3 - 1) * (b3 - 1)) : Nat) : Int)))), (8, .int (zI (((n - (b - 1) * (b - 1) - (b2 - 1) * (b2 - 1) - (b3 - 1) * (b3 - 1) : Nat) : Int)))), (0, .int (zI (n))), (1, .int (zI (4))), (3, .int (zI ((b : Int) - 1))), (4, .int (zI (((n - (b - 1) * (b - 1) : Nat) : Int)))), (5, .int (zI ((b2 : Int) - 1))), (6, .int (zI (((n - (b - 1) * (b - 1) - (b2 - 1) * (b2 - 1) : Nat) : Int))))]) hx hb dX7_ways_198 hl (k := 9) rfl (zI_incr (by omega)) (by decide) rfl (fun ls hl => ?_)
                                      refine lv_goto (tgt := 146) hx hb dX7_ways_201 (by decide) ?_
                                      exact ih146 (b3 - 1) (acc3 + wy 0 (n - (b - 1) * (b - 1) - (b2 - 1) * (b2 - 1) - (b3 - 1) * (b3 - 1)) (b3 - 1)) (by omega) (by have z := sn_p (fun a => wy 0 (n - (b - 1) * (b - 1) - (b2 - 1) * (b2 - 1) - a * a) a) (show 0 < b3 by omega); omega) (by omega) _ (lv_sub hl [4, 5, 1, 6, 7, 8, 9, 0] rfl)
                                    · refine lv_iconst (v := zI 1) hx hb dX7_ways_191 rfl ?_
                                      refine lv_goto (tgt := 196) hx hb dX7_ways_192 (by decide) ?_
                                      refine z_iadd hx hb dX7_ways_196 ?_
                                      refine z_re (e2 := ((acc3 + wy 0 (n - (b - 1) * (b - 1) - (b2 - 1) * (b2 - 1) - (b3 - 1) * (b3 - 1)) (b3 - 1) : Nat) : Int)) (by rw [w1_y ⟨by omega, Int.ofNat.inj c188⟩]; omega) ?_
                                      refine lv_istore_n (lv' := [(2, .int (zI (((acc3 + wy 0 (n - (b - 1) * (b - 1) - (b2 - 1) * (b2 - 1) - (b3 - 1) * (b3 - 1)) (b3 - 1) : Nat) : Int)))), (9, .int (zI (((sqN (n - (b - 1) * (b - 1) - (b2 - 1) * (b2 - 1) - (b3 - 1) * (b3 - 1)) : Nat) : Int)))), (8, .int (zI (((n - (b - 1) * (b - 1) - (b2 - 1) * (b2 - 1) - (b3 - 1) * (b3 - 1) : Nat) : Int)))), (0, .int (zI (n))), (1, .int (zI (4))), (3, .int (zI ((b : Int) - 1))), (4, .int (zI (((n - (b - 1) * (b - 1) : Nat) : Int)))), (5, .int (zI ((b2 : Int) - 1))), (6, .int (zI (((n - (b - 1) * (b - 1) - (b2 - 1) * (b2 - 1) : Nat) : Int)))), (7, .int (zI ((b3 : Int) - 1)))]) hx hb dX7_ways_197 rfl hl (by decide) rfl (fun ls hl => ?_)
                                      refine lv_iinc (v := zI (((b3 - 1 : Nat) : Int) - 1)) (lv' := [(7, .int (zI (((b3 - 1 : Nat) : Int) - 1))), (2, .int (zI (((acc3 + wy 0 (n - (b - 1) * (b - 1) - (b2 - 1) * (b2 - 1) - (b3 - 1) * (b3 - 1)) (b3 - 1) : Nat) : Int)))), (9, .int (zI (((sqN (n - (b - 1) * (b - 1) - (b2 - 1) * (b2 - 1) - (b3 - 1) * (b3 - 1)) : Nat) : Int)))), (8, .int (zI (((n - (b - 1) * (b - 1) - (b2 - 1) * (b2 - 1) - (b3 - 1) * (b3 - 1) : Nat) : Int)))), (0, .int (zI (n))), (1, .int (zI (4))), (3, .int (zI ((b : Int) - 1))), (4, .int (zI (((n - (b - 1) * (b - 1) : Nat) : Int)))), (5, .int (zI ((b2 : Int) - 1))), (6, .int (zI (((n - (b - 1) * (b - 1) - (b2 - 1) * (b2 - 1) : Nat) : Int))))]) hx hb dX7_ways_198 hl (k := 9) rfl (zI_incr (by omega)) (by decide) rfl (fun ls hl => ?_)
                                      refine lv_goto (tgt := 146) hx hb dX7_ways_201 (by decide) ?_
                                      exact ih146 (b3 - 1) (acc3 + wy 0 (n - (b - 1) * (b - 1) - (b2 - 1) * (b2 - 1) - (b3 - 1) * (b3 - 1)) (b3 - 1)) (by omega) (by have z := sn_p (fun a => wy 0 (n - (b - 1) * (b - 1) - (b2 - 1) * (b2 - 1) - a * a) a) (show 0 < b3 by omega); omega) (by omega) _ (lv_sub hl [4, 5, 1, 6, 7, 8, 9, 0] rfl)
                          exact lp146 _ (min (sqN (n - (b - 1) * (b - 1) - (b2 - 1) * (b2 - 1))) (b2 - 1) + 1) (acc2) (by omega) (by rw [wy_s, Nat.min_comm (sqN (n - (b - 1) * (b - 1) - (b2 - 1) * (b2 - 1))) (b2 - 1)]) (Nat.lt_succ_self _) _ (lv_sub hl [2, 3, 4, 5, 6, 7, 1, 0] rfl)
                        · exact absurd c125 (by omega)
              exact lp80 _ (min (sqN (n - (b - 1) * (b - 1))) (b - 1) + 1) (acc) (by omega) (by rw [wy_s, Nat.min_comm (sqN (n - (b - 1) * (b - 1))) (b - 1)]) (Nat.lt_succ_self _) _ (lv_sub hl [2, 3, 4, 5, 1, 0] rfl)
            · exact absurd c59 (by omega)
    exact lp25 _ (sqN n + 1) (0) (by omega) (by rw [wy_s, Nat.min_self]; omega) (Nat.lt_succ_self _) _ (lv_sub hl [2, 3, 1, 0] rfl)
  · exact absurd c9 (by omega)

-- hasPrimeOfRestThree(n)
set_option maxHeartbeats 4000000 in
set_option maxRecDepth 100000 in
theorem c_X4_hasPrimeOfRestThree (l : Launch) (n : Nat) (gn : n ≤ 1000000) (g1 : 1 ≤ n) : Met l yX4_hasPrimeOfRestThree wsX4_hasPrimeOfRestThree ({ frames := 0, cells := 0, slots := 0, locals := 0 }) (va_Pc [.int (zI (n))] (fun _ => True)) (vp_Si (fun r => r = zI (bP (hpb n = true)))) 0 0 (fun _ => False) := by
  refine Met.ofW (cc := cX4_hasPrimeOfRestThree) (maxL := 2) (ret := (some .boolean)) (by decide) rfl ?_
  intro p e s m args below meth c s₁ B hml hv
  obtain ⟨rfl, -⟩ := hv
  have hx := B.exec
  have hb := B.bytes
  have hr := B.returns
  have hts := atoms_spec (ws := wsX4_hasPrimeOfRestThree) B.pre
  have hown : s.vm.findClass RX4 = some m.cls := findClass_of_methodNamed B.named
  have hlocks := B.notSynchronized
  have hl := lv_entry ([.int (zI (n))]) (n := 2) (Nat.le_of_ble_eq_true rfl)
  rw [lg_entry_eq]
  generalize (lg_sl ([.int (zI (n))]) ++ List.replicate (2 - (lg_sl ([.int (zI (n))])).length) Slot.unset).toArray = ls at hl ⊢
  have hl : lv_has ls 2 [(0, .int (zI (n)))] := hl
  refine lv_iconst (v := zI 1) hx hb dX4_hasPrimeOfRestThree_0 rfl ?_
  refine z_re (e2 := ((1 : Nat) : Int)) (rfl) ?_
  refine lv_istore_n (lv' := [(1, .int (zI (((1 : Nat) : Int)))), (0, .int (zI (n)))]) hx hb dX4_hasPrimeOfRestThree_1 rfl hl (by decide) rfl (fun ls hl => ?_)
  have lp2 : ∀ (NN : Nat) (d : Nat) (q1 : 1 ≤ d) (q2 : d ≤ 1001) (q3 : ∀ e, 0 < e → e < d → ¬ (n % e = 0 ∧ (e % 4 = 3 ∨ n / e % 4 = 3))), 1001 - d < NN → ∀ (ls : Array Slot), lv_has ls 2 [(0, .int (zI (n))), (1, .int (zI (d)))] → W p l e (headSpec wsX4_hasPrimeOfRestThree ({ frames := 0, cells := 0, slots := 0, locals := 0 })).room s m ([.int (zI (n))] : List Value).toArray below meth c s.heap [] 0 0 (MQ below (vp_Si (fun r => r = zI (bP (hpb n = true)))) ([.int (zI (n))] : List Value).toArray s 0 0 (fun _ => False)) (F0 m 2 ls []) := by
    intro NN
    induction NN with
    | zero =>
      intro d q1 q2 q3 hmu
      exact absurd hmu (Nat.not_lt_zero _)
    | succ NN ih2 =>
      intro d q1 q2 q3 hmu ls hl
      have b0 : d * d ≤ 1001 * 1001 := Nat.mul_le_mul q2 q2
      have b1 := Nat.mod_lt n q1
      have b2 := Nat.div_le_self n d
      have b4 : (0 : Int) ≤ ((n / d : Nat) : Int) := Int.natCast_nonneg _
      refine lv_iload_n hx hb dX4_hasPrimeOfRestThree_2 rfl (lv_at hl 1 rfl) ?_
      refine lv_iload_n hx hb dX4_hasPrimeOfRestThree_3 rfl (lv_at hl 0 rfl) ?_
      refine lv_iload_n hx hb dX4_hasPrimeOfRestThree_4 rfl (lv_at hl 1 rfl) ?_
      refine z_idiv hx hb (by omega) (by omega) dX4_hasPrimeOfRestThree_5 ?_
      refine z_re (e2 := ((n / d : Nat) : Int)) (by rw [Int.natCast_ediv]) ?_
      refine z_icmp_gt (tgt := 39) hx hb dX4_hasPrimeOfRestThree_6 (by decide) (by omega) (by omega) (fun c6 => ?_) (fun c6 => ?_)
      · refine lv_iconst (v := zI 0) hx hb dX4_hasPrimeOfRestThree_39 rfl ?_
        exact W.zret (v := (zI (0))) hx hb hr (nar_b _ (by first | exact Or.inl rfl | exact Or.inr rfl | exact bP_or _)) (fun tq ht hW => ⟨_, rfl, by rw [bP_0 (hp_end g1 ((Nat.div_lt_iff_lt_mul q1).mp (Int.ofNat_lt.mp c6)) q3)], ht⟩) (fun q h => by cases h) dX4_hasPrimeOfRestThree_40
      · have b3 := root_le (Nat.le_trans ((Nat.le_div_iff_mul_le q1).mp (Int.ofNat_le.mp c6)) gn) (Nat.le_refl _)
        refine lv_iload_n hx hb dX4_hasPrimeOfRestThree_9 rfl (lv_at hl 0 rfl) ?_
        refine lv_iload_n hx hb dX4_hasPrimeOfRestThree_10 rfl (lv_at hl 1 rfl) ?_
        refine z_irem hx hb (by omega) (by omega) dX4_hasPrimeOfRestThree_11 ?_
        refine z_re (e2 := ((n % d : Nat) : Int)) (by rw [Int.natCast_emod]) ?_
        refine z_if_ne (tgt := 33) hx hb dX4_hasPrimeOfRestThree_12 (by decide) (by omega) (fun c12 => ?_) (fun c12 => ?_)
        · refine lv_iinc (v := zI (((d + 1 : Nat) : Int))) (lv' := [(1, .int (zI (((d + 1 : Nat) : Int)))), (0, .int (zI (n)))]) hx hb dX4_hasPrimeOfRestThree_33 hl (k := 1) rfl (zI_incr (by omega)) (by decide) rfl (fun ls hl => ?_)
          refine lv_goto (tgt := 2) hx hb dX4_hasPrimeOfRestThree_36 (by decide) ?_
          exact ih2 (d + 1) (by omega) (by omega) (fun e h0 h1 => (Nat.lt_succ_iff_lt_or_eq.mp h1).elim (q3 e h0) (fun z => by subst z; exact fun y => c12 (by rw [y.1]; rfl))) (by omega) _ (lv_sub hl [1, 0] rfl)
        · refine lv_iload_n hx hb dX4_hasPrimeOfRestThree_15 rfl (lv_at hl 1 rfl) ?_
          refine lv_iconst (v := zI 4) hx hb dX4_hasPrimeOfRestThree_16 rfl ?_
          refine z_irem hx hb (by omega) (by omega) dX4_hasPrimeOfRestThree_17 ?_
          refine z_re (e2 := ((d % 4 : Nat) : Int)) (by omega) ?_
          refine lv_iconst (v := zI 3) hx hb dX4_hasPrimeOfRestThree_18 rfl ?_
          refine z_icmp_eq (tgt := 31) hx hb dX4_hasPrimeOfRestThree_19 (by decide) (by omega) (by omega) (fun c19 => ?_) (fun c19 => ?_)
          · refine lv_iconst (v := zI 1) hx hb dX4_hasPrimeOfRestThree_31 rfl ?_
            exact W.zret (v := (zI (1))) hx hb hr (nar_b _ (by first | exact Or.inl rfl | exact Or.inr rfl | exact bP_or _)) (fun tq ht hW => ⟨_, rfl, by rw [bP_1 (hp_yes g1 q1 (Int.ofNat.inj c12) (Or.inl (Int.ofNat.inj c19)))], ht⟩) (fun q h => by cases h) dX4_hasPrimeOfRestThree_32
          · refine lv_iload_n hx hb dX4_hasPrimeOfRestThree_22 rfl (lv_at hl 0 rfl) ?_
            refine lv_iload_n hx hb dX4_hasPrimeOfRestThree_23 rfl (lv_at hl 1 rfl) ?_
            refine z_idiv hx hb (by omega) (by omega) dX4_hasPrimeOfRestThree_24 ?_
            refine z_re (e2 := ((n / d : Nat) : Int)) (by rw [Int.natCast_ediv]) ?_
            refine lv_iconst (v := zI 4) hx hb dX4_hasPrimeOfRestThree_25 rfl ?_
            refine z_irem hx hb (by omega) (by omega) dX4_hasPrimeOfRestThree_26 ?_
            refine z_re (e2 := ((n / d % 4 : Nat) : Int)) (by omega) ?_
            refine lv_iconst (v := zI 3) hx hb dX4_hasPrimeOfRestThree_27 rfl ?_
            refine z_icmp_ne (tgt := 33) hx hb dX4_hasPrimeOfRestThree_28 (by decide) (by omega) (by omega) (fun c28 => ?_) (fun c28 => ?_)
            · refine lv_iinc (v := zI (((d + 1 : Nat) : Int))) (lv' := [(1, .int (zI (((d + 1 : Nat) : Int)))), (0, .int (zI (n)))]) hx hb dX4_hasPrimeOfRestThree_33 hl (k := 1) rfl (zI_incr (by omega)) (by decide) rfl (fun ls hl => ?_)
              refine lv_goto (tgt := 2) hx hb dX4_hasPrimeOfRestThree_36 (by decide) ?_
              exact ih2 (d + 1) (by omega) (by omega) (fun e h0 h1 => (Nat.lt_succ_iff_lt_or_eq.mp h1).elim (q3 e h0) (fun z => by subst z; exact fun y => y.2.elim (fun u => c19 (by rw [u]; rfl)) (fun u => c28 (by rw [u]; rfl)))) (by omega) _ (lv_sub hl [1, 0] rfl)
            · refine lv_iconst (v := zI 1) hx hb dX4_hasPrimeOfRestThree_31 rfl ?_
              exact W.zret (v := (zI (1))) hx hb hr (nar_b _ (by first | exact Or.inl rfl | exact Or.inr rfl | exact bP_or _)) (fun tq ht hW => ⟨_, rfl, by rw [bP_1 (hp_yes g1 q1 (Int.ofNat.inj c12) (Or.inr (Int.ofNat.inj c28)))], ht⟩) (fun q h => by cases h) dX4_hasPrimeOfRestThree_32
  exact lp2 _ (1) (by omega) (by omega) (fun e h0 h1 => by omega) (Nat.lt_succ_self _) _ (lv_sub hl [1, 0] rfl)
