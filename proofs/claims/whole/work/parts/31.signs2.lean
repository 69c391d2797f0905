/-! Signs: the walks with loops -/
theorem cntw_s (n x w : Nat) : cntw n x (w + 1) = cntw n x w + (if nwT n x w = true then 1 else 0) := rfl
theorem and_rng (w k : Nat) (h : w < 8) : -2147483648 ≤ ((w &&& k : Nat) : Int) ∧ ((w &&& k : Nat) : Int) < 2147483648 := by
  have := Nat.and_le_left (n := w) (m := k)
  omega
theorem pm_p {a i : Nat} (h : pm a i = 1) : a.testBit i = false := by
  unfold pm at h
  cases hb : a.testBit i
  · rfl
  · rw [hb] at h; exact absurd h (by decide)
theorem pm_n {a i : Nat} (h : ¬ pm a i = 1) : a.testBit i = true := by
  unfold pm at h
  cases hb : a.testBit i
  · rw [hb] at h; exact absurd rfl h
  · rfl
-- peak(x, n)
set_option maxHeartbeats 4000000 in
set_option maxRecDepth 100000 in
theorem c_X3_peak (l : Launch) (x n : Nat) (gn : n ≤ 32) (g1 : 1 ≤ n) (gx : x < 2 ^ n) : Met l yX3_peak wsX3_peak ({ frames := 2, cells := 0, slots := 0, locals := 45 }) (va_Pc [.long (lN (x)), .int (zI (n))] (fun _ => True)) (vp_Si (fun r => r = zI (pkL n x n : Int))) 0 0 (fun _ => False) := by
  refine Met.ofW (cc := cX3_peak) (maxL := 5) (ret := (some .int)) (by decide) rfl ?_
  intro p e s m args below meth c s₁ B hml hv
  obtain ⟨rfl, -⟩ := hv
  have hx := B.exec
  have hb := B.bytes
  have hr := B.returns
  have hts := atoms_spec (ws := wsX3_peak) B.pre
  have hown : s.vm.findClass RX3 = some m.cls := findClass_of_methodNamed B.named
  have hlocks := B.notSynchronized
  have hl := lv_entry ([.long (lN (x)), .int (zI (n))]) (n := 5) (Nat.le_of_ble_eq_true rfl)
  rw [lg_entry_eq]
  generalize (lg_sl ([.long (lN (x)), .int (zI (n))]) ++ List.replicate (5 - (lg_sl ([.long (lN (x)), .int (zI (n))])).length) Slot.unset).toArray = ls at hl ⊢
  have hl : lv_has ls 5 [(0, .long (lN (x))), (2, .int (zI (n)))] := hl
  refine lv_iconst (v := zI 0) hx hb dX3_peak_0 rfl ?_
  refine z_re (e2 := ((pkL n x 1 : Nat) : Int)) (rfl) ?_
  refine lv_istore_n (lv' := [(3, .int (zI (((pkL n x 1 : Nat) : Int)))), (0, .long (lN (x))), (2, .int (zI (n)))]) hx hb dX3_peak_1 rfl hl (by decide) rfl (fun ls hl => ?_)
  refine lv_iconst (v := zI 1) hx hb dX3_peak_2 rfl ?_
  refine z_re (e2 := ((1 : Nat) : Int)) (rfl) ?_
  refine lv_istore (lv' := [(4, .int (zI (((1 : Nat) : Int)))), (3, .int (zI (((pkL n x 1 : Nat) : Int)))), (0, .long (lN (x))), (2, .int (zI (n)))]) hx hb dX3_peak_3 hl (by decide) rfl (fun ls hl => ?_)
  have lp5 : ∀ (NN : Nat) (k : Nat) (q1 : 1 ≤ k) (q2 : k ≤ n), n - k < NN → ∀ (ls : Array Slot), lv_has ls 5 [(0, .long (lN (x))), (2, .int (zI (n))), (3, .int (zI (((pkL n x k : Nat) : Int)))), (4, .int (zI (k)))] → W p l e (headSpec wsX3_peak ({ frames := 2, cells := 0, slots := 0, locals := 45 })).room s m ([.long (lN (x)), .int (zI (n))] : List Value).toArray below meth c s.heap [] 0 0 (MQ below (vp_Si (fun r => r = zI (pkL n x n : Int))) ([.long (lN (x)), .int (zI (n))] : List Value).toArray s 0 0 (fun _ => False)) (F0 m 5 ls []) := by
    intro NN
    induction NN with
    | zero =>
      intro k q1 q2 hmu
      exact absurd hmu (Nat.not_lt_zero _)
    | succ NN ih5 =>
      intro k q1 q2 hmu ls hl
      have b1 := pkL_bd n x k
      have b2 := oS_bd n x k
      refine lv_iload hx hb dX3_peak_5 (lv_at hl 3 rfl) ?_
      refine lv_iload_n hx hb dX3_peak_7 rfl (lv_at hl 1 rfl) ?_
      refine z_icmp_ge (tgt := 32) hx hb dX3_peak_8 (by decide) (by omega) (by omega) (fun c8 => ?_) (fun c8 => ?_)
      · refine lv_iload_n hx hb dX3_peak_32 rfl (lv_at hl 2 rfl) ?_
        exact W.iret (v := (zI (((pkL n x k : Nat) : Int)))) hx hb hr (fun tq ht hW => ⟨_, rfl, by rw [show k = n by omega], ht⟩) (fun q h => by cases h) dX3_peak_33
      · refine lv_iload_n hx hb dX3_peak_11 rfl (lv_at hl 2 rfl) ?_
        refine lv_lload_n hx hb dX3_peak_12 rfl (lv_at hl 0 rfl) ?_
        refine lv_iload_n hx hb dX3_peak_13 rfl (lv_at hl 1 rfl) ?_
        refine lv_iload hx hb dX3_peak_14 (lv_at hl 3 rfl) ?_
        refine vp_callSi (va_runS (As := [.long (lN (x)), .int (zI (n)), .int (zI (k))]) (rest := [.int (zI (((pkL n x k : Nat) : Int)))]) ⟨hx, hb, hml, hown, hts⟩ (c_X3_openSum l x n k gn (by omega) gx) (va_cwS 3 hts gX3_peak_X3_openSum rfl rfl rfl (by decide +kernel) ⟨Nat.le_of_ble_eq_true rfl, Nat.le_of_ble_eq_true rfl⟩) ⟨fun a U g mk q => q, fun U hU hW => ⟨rfl, trivial⟩⟩ rfl rfl hl.1 rfl (lv_room (Nat.le_of_ble_eq_true rfl)) dX3_peak_16 ⟨Nat.le_of_ble_eq_true rfl, Nat.le_of_ble_eq_true rfl⟩).run (fun r hr16 => ?_)
        obtain rfl := hr16
        refine z_mabs hx hb (hml.trans hl.1.symm) hown (hts (.methodLink RX3 23 Lib.Math.abs.name) (by decide +kernel)) (hts (.static Lib.Math.abs.name) (by decide +kernel)) (hts (.initialized "java/lang/Math") (by decide +kernel)) (hts (.code Lib.Math.abs.name Lib.Math.abs.code 1 (some .int)) (by decide +kernel)) (Nat.le_of_ble_eq_true rfl) (Nat.le_of_ble_eq_true rfl) (Nat.le_of_ble_eq_true rfl) (Nat.le_of_ble_eq_true rfl) (by omega) dX3_peak_19 ?_
        refine z_mmax hx hb (hml.trans hl.1.symm) hown (hts (.methodLink RX3 29 Lib.Math.max.name) (by decide +kernel)) (hts (.static Lib.Math.max.name) (by decide +kernel)) (hts (.initialized "java/lang/Math") (by decide +kernel)) (hts (.code Lib.Math.max.name Lib.Math.max.code 2 (some .int)) (by decide +kernel)) (Nat.le_of_ble_eq_true rfl) (Nat.le_of_ble_eq_true rfl) (Nat.le_of_ble_eq_true rfl) (Nat.le_of_ble_eq_true rfl) (by omega) (by omega) dX3_peak_22 ?_
        refine z_re (e2 := ((pkL n x (k + 1) : Nat) : Int)) (by rw [pkL_s n x q1]; omega) ?_
        refine lv_istore_n (lv' := [(3, .int (zI (((pkL n x (k + 1) : Nat) : Int)))), (0, .long (lN (x))), (2, .int (zI (n))), (4, .int (zI (k)))]) hx hb dX3_peak_25 rfl hl (by decide) rfl (fun ls hl => ?_)
        refine lv_iinc (v := zI (((k + 1 : Nat) : Int))) (lv' := [(4, .int (zI (((k + 1 : Nat) : Int)))), (3, .int (zI (((pkL n x (k + 1) : Nat) : Int)))), (0, .long (lN (x))), (2, .int (zI (n)))]) hx hb dX3_peak_26 hl (k := 3) rfl (zI_incr (by omega)) (by decide) rfl (fun ls hl => ?_)
        refine lv_goto (tgt := 5) hx hb dX3_peak_29 (by decide) ?_
        exact ih5 (k + 1) (by omega) (by omega) (by omega) _ (lv_sub hl [2, 3, 1, 0] rfl)
  exact lp5 _ (1) (by omega) (by omega) (Nat.lt_succ_self _) _ (lv_sub hl [2, 3, 1, 0] rfl)

-- energy(x, n)
set_option maxHeartbeats 4000000 in
set_option maxRecDepth 100000 in
theorem c_X3_energy (l : Launch) (x n : Nat) (gn : n ≤ 32) (g1 : 1 ≤ n) (gx : x < 2 ^ n) : Met l yX3_energy wsX3_energy ({ frames := 2, cells := 0, slots := 0, locals := 45 }) (va_Pc [.long (lN (x)), .int (zI (n))] (fun _ => True)) (vp_Si (fun r => r = zI (enL n x n))) 0 0 (fun _ => False) := by
  refine Met.ofW (cc := cX3_energy) (maxL := 6) (ret := (some .int)) (by decide) rfl ?_
  intro p e s m args below meth c s₁ B hml hv
  obtain ⟨rfl, -⟩ := hv
  have hx := B.exec
  have hb := B.bytes
  have hr := B.returns
  have hts := atoms_spec (ws := wsX3_energy) B.pre
  have hown : s.vm.findClass RX3 = some m.cls := findClass_of_methodNamed B.named
  have hlocks := B.notSynchronized
  have hl := lv_entry ([.long (lN (x)), .int (zI (n))]) (n := 6) (Nat.le_of_ble_eq_true rfl)
  rw [lg_entry_eq]
  generalize (lg_sl ([.long (lN (x)), .int (zI (n))]) ++ List.replicate (6 - (lg_sl ([.long (lN (x)), .int (zI (n))])).length) Slot.unset).toArray = ls at hl ⊢
  have hl : lv_has ls 6 [(0, .long (lN (x))), (2, .int (zI (n)))] := hl
  refine lv_iconst (v := zI 0) hx hb dX3_energy_0 rfl ?_
  refine z_re (e2 := enL n x 1) (rfl) ?_
  refine lv_istore_n (lv' := [(3, .int (zI (enL n x 1))), (0, .long (lN (x))), (2, .int (zI (n)))]) hx hb dX3_energy_1 rfl hl (by decide) rfl (fun ls hl => ?_)
  refine lv_iconst (v := zI 1) hx hb dX3_energy_2 rfl ?_
  refine z_re (e2 := ((1 : Nat) : Int)) (rfl) ?_
  refine lv_istore (lv' := [(4, .int (zI (((1 : Nat) : Int)))), (3, .int (zI (enL n x 1))), (0, .long (lN (x))), (2, .int (zI (n)))]) hx hb dX3_energy_3 hl (by decide) rfl (fun ls hl => ?_)
  have lp5 : ∀ (NN : Nat) (k : Nat) (q1 : 1 ≤ k) (q2 : k ≤ n), n - k < NN → ∀ (ls : Array Slot), lv_has ls 6 [(0, .long (lN (x))), (2, .int (zI (n))), (3, .int (zI (enL n x k))), (4, .int (zI (k)))] → W p l e (headSpec wsX3_energy ({ frames := 2, cells := 0, slots := 0, locals := 45 })).room s m ([.long (lN (x)), .int (zI (n))] : List Value).toArray below meth c s.heap [] 0 0 (MQ below (vp_Si (fun r => r = zI (enL n x n))) ([.long (lN (x)), .int (zI (n))] : List Value).toArray s 0 0 (fun _ => False)) (F0 m 5 ls []) := by
    intro NN
    induction NN with
    | zero =>
      intro k q1 q2 hmu
      exact absurd hmu (Nat.not_lt_zero _)
    | succ NN ih5 =>
      intro k q1 q2 hmu ls hl
      refine lv_iload hx hb dX3_energy_5 (lv_at hl 3 rfl) ?_
      refine lv_iload_n hx hb dX3_energy_7 rfl (lv_at hl 1 rfl) ?_
      refine z_icmp_ge (tgt := 34) hx hb dX3_energy_8 (by decide) (by omega) (by omega) (fun c8 => ?_) (fun c8 => ?_)
      · refine lv_iload_n hx hb dX3_energy_34 rfl (lv_at hl 2 rfl) ?_
        exact W.iret (v := (zI (enL n x k))) hx hb hr (fun tq ht hW => ⟨_, rfl, by rw [show k = n by omega], ht⟩) (fun q h => by cases h) dX3_energy_35
      · refine lv_lload_n hx hb dX3_energy_11 rfl (lv_at hl 0 rfl) ?_
        refine lv_iload_n hx hb dX3_energy_12 rfl (lv_at hl 1 rfl) ?_
        refine lv_iload hx hb dX3_energy_13 (lv_at hl 3 rfl) ?_
        refine vp_callSi (va_runS (As := [.long (lN (x)), .int (zI (n)), .int (zI (k))]) (rest := []) ⟨hx, hb, hml, hown, hts⟩ (c_X3_openSum l x n k gn (by omega) gx) (va_cwS 3 hts gX3_energy_X3_openSum rfl rfl rfl (by decide +kernel) ⟨Nat.le_of_ble_eq_true rfl, Nat.le_of_ble_eq_true rfl⟩) ⟨fun a U g mk q => q, fun U hU hW => ⟨rfl, trivial⟩⟩ rfl rfl hl.1 rfl (lv_room (Nat.le_of_ble_eq_true rfl)) dX3_energy_15 ⟨Nat.le_of_ble_eq_true rfl, Nat.le_of_ble_eq_true rfl⟩).run (fun r hr15 => ?_)
        obtain rfl := hr15
        refine lv_istore (lv' := [(5, .int (zI (oS (n) (x) (k)))), (0, .long (lN (x))), (2, .int (zI (n))), (3, .int (zI (enL n x k))), (4, .int (zI (k)))]) hx hb dX3_energy_18 hl (by decide) rfl (fun ls hl => ?_)
        refine lv_iload_n hx hb dX3_energy_20 rfl (lv_at hl 3 rfl) ?_
        refine lv_iload hx hb dX3_energy_21 (lv_at hl 0 rfl) ?_
        refine lv_iload hx hb dX3_energy_23 (lv_at hl 0 rfl) ?_
        refine z_imul hx hb dX3_energy_25 ?_
        refine z_iadd hx hb dX3_energy_26 ?_
        refine z_re (e2 := enL n x (k + 1)) (by rw [enL_s n x q1]) ?_
        refine lv_istore_n (lv' := [(3, .int (zI (enL n x (k + 1)))), (5, .int (zI (oS (n) (x) (k)))), (0, .long (lN (x))), (2, .int (zI (n))), (4, .int (zI (k)))]) hx hb dX3_energy_27 rfl hl (by decide) rfl (fun ls hl => ?_)
        refine lv_iinc (v := zI (((k + 1 : Nat) : Int))) (lv' := [(4, .int (zI (((k + 1 : Nat) : Int)))), (3, .int (zI (enL n x (k + 1)))), (5, .int (zI (oS (n) (x) (k)))), (0, .long (lN (x))), (2, .int (zI (n)))]) hx hb dX3_energy_28 hl (k := 4) rfl (zI_incr (by omega)) (by decide) rfl (fun ls hl => ?_)
        refine lv_goto (tgt := 5) hx hb dX3_energy_31 (by decide) ?_
        exact ih5 (k + 1) (by omega) (by omega) (by omega) _ (lv_sub hl [3, 4, 1, 0] rfl)
  exact lp5 _ (1) (by omega) (by omega) (Nat.lt_succ_self _) _ (lv_sub hl [2, 3, 1, 0] rfl)

-- total(x, n)
set_option maxHeartbeats 4000000 in
set_option maxRecDepth 100000 in
theorem c_X3_total (l : Launch) (x n : Nat) (gn : n ≤ 32) (gx : x < 2 ^ n) : Met l yX3_total wsX3_total ({ frames := 1, cells := 0, slots := 0, locals := 21 }) (va_Pc [.long (lN (x)), .int (zI (n))] (fun _ => True)) (vp_Si (fun r => r = zI (tot n x))) 0 0 (fun _ => False) := by
  refine Met.ofW (cc := cX3_total) (maxL := 3) (ret := (some .int)) (by decide) rfl ?_
  intro p e s m args below meth c s₁ B hml hv
  obtain ⟨rfl, -⟩ := hv
  have hx := B.exec
  have hb := B.bytes
  have hr := B.returns
  have hts := atoms_spec (ws := wsX3_total) B.pre
  have hown : s.vm.findClass RX3 = some m.cls := findClass_of_methodNamed B.named
  have hlocks := B.notSynchronized
  have hl := lv_entry ([.long (lN (x)), .int (zI (n))]) (n := 3) (Nat.le_of_ble_eq_true rfl)
  rw [lg_entry_eq]
  generalize (lg_sl ([.long (lN (x)), .int (zI (n))]) ++ List.replicate (3 - (lg_sl ([.long (lN (x)), .int (zI (n))])).length) Slot.unset).toArray = ls at hl ⊢
  have hl : lv_has ls 3 [(0, .long (lN (x))), (2, .int (zI (n)))] := hl
  refine lv_iload_n hx hb dX3_total_0 rfl (lv_at hl 1 rfl) ?_
  refine lv_iconst (v := zI 2) hx hb dX3_total_1 rfl ?_
  refine lv_lload_n hx hb dX3_total_2 rfl (lv_at hl 0 rfl) ?_
  refine vp_callSi (va_runS (As := [.long (lN (x))]) (rest := [.int (zI (2)), .int (zI (n))]) ⟨hx, hb, hml, hown, hts⟩ (c_J13_bitCount_95d88 l x (lt32 gx gn)) (va_cwS 1 hts gX3_total_J13_bitCount_95d88 rfl rfl rfl (by decide +kernel) ⟨Nat.le_of_ble_eq_true rfl, Nat.le_of_ble_eq_true rfl⟩) ⟨fun a U g mk q => q, fun U hU hW => ⟨rfl, trivial⟩⟩ rfl rfl hl.1 rfl (lv_room (Nat.le_of_ble_eq_true rfl)) dX3_total_3 ⟨Nat.le_of_ble_eq_true rfl, Nat.le_of_ble_eq_true rfl⟩).run (fun r hr3 => ?_)
  obtain rfl := hr3
  refine z_imul hx hb dX3_total_6 ?_
  refine z_isub hx hb dX3_total_7 ?_
  refine z_re (e2 := tot n x) (by rw [tot_pc gn gx]) ?_
  exact W.iret (v := (zI (tot n x))) hx hb hr (fun tq ht hW => ⟨_, rfl, rfl, ht⟩) (fun q h => by cases h) dX3_total_8

-- changes(x, n)
set_option maxHeartbeats 4000000 in
set_option maxRecDepth 100000 in
theorem c_X3_changes (l : Launch) (x n : Nat) (gn : n ≤ 32) (g1 : 1 ≤ n) (gx : x < 2 ^ n) : Met l yX3_changes wsX3_changes ({ frames := 1, cells := 0, slots := 0, locals := 21 }) (va_Pc [.long (lN (x)), .int (zI (n))] (fun _ => True)) (vp_Si (fun r => r = zI (chS n x : Int))) 0 0 (fun _ => False) := by
  refine Met.ofW (cc := cX3_changes) (maxL := 3) (ret := (some .int)) (by decide) rfl ?_
  intro p e s m args below meth c s₁ B hml hv
  obtain ⟨rfl, -⟩ := hv
  have hx := B.exec
  have hb := B.bytes
  have hr := B.returns
  have hts := atoms_spec (ws := wsX3_changes) B.pre
  have hown : s.vm.findClass RX3 = some m.cls := findClass_of_methodNamed B.named
  have hlocks := B.notSynchronized
  have hl := lv_entry ([.long (lN (x)), .int (zI (n))]) (n := 3) (Nat.le_of_ble_eq_true rfl)
  rw [lg_entry_eq]
  generalize (lg_sl ([.long (lN (x)), .int (zI (n))]) ++ List.replicate (3 - (lg_sl ([.long (lN (x)), .int (zI (n))])).length) Slot.unset).toArray = ls at hl ⊢
  have hl : lv_has ls 3 [(0, .long (lN (x))), (2, .int (zI (n)))] := hl
  have gx2 := lt32 gx gn
  refine lv_lload_n hx hb dX3_changes_0 rfl (lv_at hl 0 rfl) ?_
  refine lv_lload_n hx hb dX3_changes_1 rfl (lv_at hl 0 rfl) ?_
  refine lv_iconst (v := zI 1) hx hb dX3_changes_2 rfl ?_
  refine n_lushr hx hb (q := 1) (by omega) (by decide) dX3_changes_3 ?_
  refine n_lxor hx hb dX3_changes_4 ?_
  refine lv_iload_n hx hb dX3_changes_5 rfl (lv_at hl 1 rfl) ?_
  refine lv_iconst (v := zI 1) hx hb dX3_changes_6 rfl ?_
  refine z_isub hx hb dX3_changes_7 ?_
  refine z_re (e2 := ((n - 1 : Nat) : Int)) (by omega) ?_
  refine vp_callSl (va_runS (As := [.int (zI (((n - 1 : Nat) : Int)))]) (rest := [.long (lN ((x) ^^^ ((x) >>> (1))))]) ⟨hx, hb, hml, hown, hts⟩ (c_X3_mask l (n - 1) (by omega)) (va_cwS 1 hts gX3_changes_X3_mask rfl rfl rfl (by decide +kernel) ⟨Nat.le_of_ble_eq_true rfl, Nat.le_of_ble_eq_true rfl⟩) ⟨fun a U g mk q => q, fun U hU hW => ⟨rfl, trivial⟩⟩ rfl rfl hl.1 rfl (lv_room (Nat.le_of_ble_eq_true rfl)) dX3_changes_8 ⟨Nat.le_of_ble_eq_true rfl, Nat.le_of_ble_eq_true rfl⟩).run (fun r hr8 => ?_)
  obtain rfl := hr8
  refine n_land hx hb dX3_changes_11 ?_
  refine vp_callSi (va_runS (As := [.long (lN (((x) ^^^ ((x) >>> (1))) &&& (2 ^ (n - 1) - 1)))]) (rest := []) ⟨hx, hb, hml, hown, hts⟩ (c_J13_bitCount_95d88 l ((x ^^^ (x >>> 1)) &&& (2 ^ (n - 1) - 1)) (Nat.lt_of_le_of_lt Nat.and_le_left (Nat.xor_lt_two_pow (n := 32) gx2 (Nat.lt_of_le_of_lt (shr_le x 1) gx2)))) (va_cwS 1 hts gX3_changes_J13_bitCount_95d88 rfl rfl rfl (by decide +kernel) ⟨Nat.le_of_ble_eq_true rfl, Nat.le_of_ble_eq_true rfl⟩) ⟨fun a U g mk q => q, fun U hU hW => ⟨rfl, trivial⟩⟩ rfl rfl hl.1 rfl (lv_room (Nat.le_of_ble_eq_true rfl)) dX3_changes_12 ⟨Nat.le_of_ble_eq_true rfl, Nat.le_of_ble_eq_true rfl⟩).run (fun r hr12 => ?_)
  obtain rfl := hr12
  exact W.iret (v := (zI ((pc (((x) ^^^ ((x) >>> (1))) &&& (2 ^ (n - 1) - 1)) 32 : Int)))) hx hb hr (fun tq ht hW => ⟨_, rfl, by rw [chS_pc gn], ht⟩) (fun q h => by cases h) dX3_changes_15

-- firstLeftOpen(a, b, n)
set_option maxHeartbeats 4000000 in
set_option maxRecDepth 100000 in
theorem c_X3_firstLeftOpen (l : Launch) (a b n : Nat) (gn : n ≤ 32) (g1 : 1 ≤ n) (ga : a < 2 ^ n) (gb : b < 2 ^ n) : Met l yX3_firstLeftOpen wsX3_firstLeftOpen ({ frames := 2, cells := 0, slots := 0, locals := 45 }) (va_Pc [.long (lN (a)), .long (lN (b)), .int (zI (n))] (fun _ => True)) (vp_Si (fun r => r = zI (ff (fun k => oS n a k + oS n b k) 1 (n - 1) : Int))) 0 0 (fun _ => False) := by
  refine Met.ofW (cc := cX3_firstLeftOpen) (maxL := 6) (ret := (some .int)) (by decide) rfl ?_
  intro p e s m args below meth c s₁ B hml hv
  obtain ⟨rfl, -⟩ := hv
  have hx := B.exec
  have hb := B.bytes
  have hr := B.returns
  have hts := atoms_spec (ws := wsX3_firstLeftOpen) B.pre
  have hown : s.vm.findClass RX3 = some m.cls := findClass_of_methodNamed B.named
  have hlocks := B.notSynchronized
  have hl := lv_entry ([.long (lN (a)), .long (lN (b)), .int (zI (n))]) (n := 6) (Nat.le_of_ble_eq_true rfl)
  rw [lg_entry_eq]
  generalize (lg_sl ([.long (lN (a)), .long (lN (b)), .int (zI (n))]) ++ List.replicate (6 - (lg_sl ([.long (lN (a)), .long (lN (b)), .int (zI (n))])).length) Slot.unset).toArray = ls at hl ⊢
  have hl : lv_has ls 6 [(0, .long (lN (a))), (2, .long (lN (b))), (4, .int (zI (n)))] := hl
  refine lv_iconst (v := zI 1) hx hb dX3_firstLeftOpen_0 rfl ?_
  refine z_re (e2 := ((1 : Nat) : Int)) (rfl) ?_
  refine lv_istore (lv' := [(5, .int (zI (((1 : Nat) : Int)))), (0, .long (lN (a))), (2, .long (lN (b))), (4, .int (zI (n)))]) hx hb dX3_firstLeftOpen_1 hl (by decide) rfl (fun ls hl => ?_)
  have lp3 : ∀ (NN : Nat) (k : Nat) (q1 : 1 ≤ k) (q2 : k ≤ n) (q3 : ff (fun k => oS n a k + oS n b k) 1 (n - 1) = ff (fun k => oS n a k + oS n b k) k (n - k)), n - k < NN → ∀ (ls : Array Slot), lv_has ls 6 [(0, .long (lN (a))), (2, .long (lN (b))), (4, .int (zI (n))), (5, .int (zI (k)))] → W p l e (headSpec wsX3_firstLeftOpen ({ frames := 2, cells := 0, slots := 0, locals := 45 })).room s m ([.long (lN (a)), .long (lN (b)), .int (zI (n))] : List Value).toArray below meth c s.heap [] 0 0 (MQ below (vp_Si (fun r => r = zI (ff (fun k => oS n a k + oS n b k) 1 (n - 1) : Int))) ([.long (lN (a)), .long (lN (b)), .int (zI (n))] : List Value).toArray s 0 0 (fun _ => False)) (F0 m 3 ls []) := by
    intro NN
    induction NN with
    | zero =>
      intro k q1 q2 q3 hmu
      exact absurd hmu (Nat.not_lt_zero _)
    | succ NN ih3 =>
      intro k q1 q2 q3 hmu ls hl
      have b1 := oS_bd n a k
      have b2 := oS_bd n b k
      refine lv_iload hx hb dX3_firstLeftOpen_3 (lv_at hl 3 rfl) ?_
      refine lv_iload hx hb dX3_firstLeftOpen_5 (lv_at hl 2 rfl) ?_
      refine z_icmp_ge (tgt := 39) hx hb dX3_firstLeftOpen_7 (by decide) (by omega) (by omega) (fun c7 => ?_) (fun c7 => ?_)
      · refine lv_iconst (v := zI 0) hx hb dX3_firstLeftOpen_39 rfl ?_
        exact W.iret (v := (zI (0))) hx hb hr (fun tq ht hW => ⟨_, rfl, by rw [q3, ff_e _ (by omega)]; rfl, ht⟩) (fun q h => by cases h) dX3_firstLeftOpen_40
      · refine lv_lload_n hx hb dX3_firstLeftOpen_10 rfl (lv_at hl 0 rfl) ?_
        refine lv_iload hx hb dX3_firstLeftOpen_11 (lv_at hl 2 rfl) ?_
        refine lv_iload hx hb dX3_firstLeftOpen_13 (lv_at hl 3 rfl) ?_
        refine vp_callSi (va_runS (As := [.long (lN (a)), .int (zI (n)), .int (zI (k))]) (rest := []) ⟨hx, hb, hml, hown, hts⟩ (c_X3_openSum l a n k gn (by omega) ga) (va_cwS 3 hts gX3_firstLeftOpen_X3_openSum rfl rfl rfl (by decide +kernel) ⟨Nat.le_of_ble_eq_true rfl, Nat.le_of_ble_eq_true rfl⟩) ⟨fun a U g mk q => q, fun U hU hW => ⟨rfl, trivial⟩⟩ rfl rfl hl.1 rfl (lv_room (Nat.le_of_ble_eq_true rfl)) dX3_firstLeftOpen_15 ⟨Nat.le_of_ble_eq_true rfl, Nat.le_of_ble_eq_true rfl⟩).run (fun r hr15 => ?_)
        obtain rfl := hr15
        refine lv_lload_n hx hb dX3_firstLeftOpen_18 rfl (lv_at hl 1 rfl) ?_
        refine lv_iload hx hb dX3_firstLeftOpen_19 (lv_at hl 2 rfl) ?_
        refine lv_iload hx hb dX3_firstLeftOpen_21 (lv_at hl 3 rfl) ?_
        refine vp_callSi (va_runS (As := [.long (lN (b)), .int (zI (n)), .int (zI (k))]) (rest := [.int (zI (oS (n) (a) (k)))]) ⟨hx, hb, hml, hown, hts⟩ (c_X3_openSum l b n k gn (by omega) gb) (va_cwS 3 hts gX3_firstLeftOpen_X3_openSum rfl rfl rfl (by decide +kernel) ⟨Nat.le_of_ble_eq_true rfl, Nat.le_of_ble_eq_true rfl⟩) ⟨fun a U g mk q => q, fun U hU hW => ⟨rfl, trivial⟩⟩ rfl rfl hl.1 rfl (lv_room (Nat.le_of_ble_eq_true rfl)) dX3_firstLeftOpen_23 ⟨Nat.le_of_ble_eq_true rfl, Nat.le_of_ble_eq_true rfl⟩).run (fun r hr23 => ?_)
        obtain rfl := hr23
        refine z_iadd hx hb dX3_firstLeftOpen_26 ?_
        refine z_if_eq (tgt := 33) hx hb dX3_firstLeftOpen_27 (by decide) (by omega) (fun c27 => ?_) (fun c27 => ?_)
        · refine lv_iinc (v := zI (((k + 1 : Nat) : Int))) (lv' := [(5, .int (zI (((k + 1 : Nat) : Int)))), (0, .long (lN (a))), (2, .long (lN (b))), (4, .int (zI (n)))]) hx hb dX3_firstLeftOpen_33 hl (k := 3) rfl (zI_incr (by omega)) (by decide) rfl (fun ls hl => ?_)
          refine lv_goto (tgt := 3) hx hb dX3_firstLeftOpen_36 (by decide) ?_
          exact ih3 (k + 1) (by omega) (by omega) (by rw [q3, ff_s _ (by omega), if_neg (fun z => z c27)]) (by omega) _ (lv_sub hl [1, 2, 3, 0] rfl)
        · refine lv_iload hx hb dX3_firstLeftOpen_30 (lv_at hl 3 rfl) ?_
          exact W.iret (v := (zI (k))) hx hb hr (fun tq ht hW => ⟨_, rfl, by rw [q3, ff_s _ (by omega), if_pos c27], ht⟩) (fun q h => by cases h) dX3_firstLeftOpen_32
  exact lp3 _ (1) (by omega) (by omega) (rfl) (Nat.lt_succ_self _) _ (lv_sub hl [1, 2, 3, 0] rfl)

-- reversed(x, n)
set_option maxHeartbeats 4000000 in
set_option maxRecDepth 100000 in
theorem c_X3_reversed (l : Launch) (x n : Nat) (gn : n ≤ 32) (gx : x < 2 ^ n) : Met l yX3_reversed wsX3_reversed ({ frames := 0, cells := 0, slots := 0, locals := 0 }) (va_Pc [.long (lN (x)), .int (zI (n))] (fun _ => True)) (vp_Sl (fun r => r = lN (rv n x))) 0 0 (fun _ => False) := by
  refine Met.ofW (cc := cX3_reversed) (maxL := 6) (ret := (some .long)) (by decide) rfl ?_
  intro p e s m args below meth c s₁ B hml hv
  obtain ⟨rfl, -⟩ := hv
  have hx := B.exec
  have hb := B.bytes
  have hr := B.returns
  have hts := atoms_spec (ws := wsX3_reversed) B.pre
  have hown : s.vm.findClass RX3 = some m.cls := findClass_of_methodNamed B.named
  have hlocks := B.notSynchronized
  have hl := lv_entry ([.long (lN (x)), .int (zI (n))]) (n := 6) (Nat.le_of_ble_eq_true rfl)
  rw [lg_entry_eq]
  generalize (lg_sl ([.long (lN (x)), .int (zI (n))]) ++ List.replicate (6 - (lg_sl ([.long (lN (x)), .int (zI (n))])).length) Slot.unset).toArray = ls at hl ⊢
  have hl : lv_has ls 6 [(0, .long (lN (x))), (2, .int (zI (n)))] := hl
  have gx2 := lt32 gx gn
  refine lv_lconst (v := lN 0) hx hb dX3_reversed_0 rfl ?_
  refine n_re (e2 := ob (fun j => x.testBit (0 - 1 - j)) 0) (rfl) ?_
  refine lv_lstore_n (lv' := [(3, .long (lN (ob (fun j => x.testBit (0 - 1 - j)) 0))), (0, .long (lN (x))), (2, .int (zI (n)))]) hx hb dX3_reversed_1 rfl hl (by decide) rfl (fun ls hl => ?_)
  refine lv_iconst (v := zI 0) hx hb dX3_reversed_2 rfl ?_
  refine z_re (e2 := ((0 : Nat) : Int)) (rfl) ?_
  refine lv_istore (lv' := [(5, .int (zI (((0 : Nat) : Int)))), (3, .long (lN (ob (fun j => x.testBit (0 - 1 - j)) 0))), (0, .long (lN (x))), (2, .int (zI (n)))]) hx hb dX3_reversed_3 hl (by decide) rfl (fun ls hl => ?_)
  have lp5 : ∀ (NN : Nat) (i : Nat) (q2 : i ≤ n), n - i < NN → ∀ (ls : Array Slot), lv_has ls 6 [(0, .long (lN (x))), (2, .int (zI (n))), (3, .long (lN (ob (fun j => x.testBit (i - 1 - j)) i))), (5, .int (zI (i)))] → W p l e (headSpec wsX3_reversed ({ frames := 0, cells := 0, slots := 0, locals := 0 })).room s m ([.long (lN (x)), .int (zI (n))] : List Value).toArray below meth c s.heap [] 0 0 (MQ below (vp_Sl (fun r => r = lN (rv n x))) ([.long (lN (x)), .int (zI (n))] : List Value).toArray s 0 0 (fun _ => False)) (F0 m 5 ls []) := by
    intro NN
    induction NN with
    | zero =>
      intro i q2 hmu
      exact absurd hmu (Nat.not_lt_zero _)
    | succ NN ih5 =>
      intro i q2 hmu ls hl
      refine lv_iload hx hb dX3_reversed_5 (lv_at hl 3 rfl) ?_
      refine lv_iload_n hx hb dX3_reversed_7 rfl (lv_at hl 1 rfl) ?_
      refine z_icmp_ge (tgt := 28) hx hb dX3_reversed_8 (by decide) (by omega) (by omega) (fun c8 => ?_) (fun c8 => ?_)
      · refine lv_lload_n hx hb dX3_reversed_28 rfl (lv_at hl 2 rfl) ?_
        exact W.lret (v := (lN (ob (fun j => x.testBit (i - 1 - j)) i))) hx hb hr (fun tq ht hW => ⟨_, rfl, by rw [show i = n by omega]; rfl, ht⟩) (fun q h => by cases h) dX3_reversed_29
      · refine lv_lload_n hx hb dX3_reversed_11 rfl (lv_at hl 2 rfl) ?_
        refine lv_iconst (v := zI 1) hx hb dX3_reversed_12 rfl ?_
        refine n_lshl hx hb (q := 1) (by decide) dX3_reversed_13 ?_
        refine lv_lload_n hx hb dX3_reversed_14 rfl (lv_at hl 0 rfl) ?_
        refine lv_iload hx hb dX3_reversed_15 (lv_at hl 3 rfl) ?_
        refine n_lushr hx hb (q := i) (by omega) (by omega) dX3_reversed_17 ?_
        refine lv_lconst (v := lN 1) hx hb dX3_reversed_18 rfl ?_
        refine n_land hx hb dX3_reversed_19 ?_
        refine n_re (e2 := (x.testBit i).toNat) (tbN x i) ?_
        refine n_lor hx hb dX3_reversed_20 ?_
        refine n_re (e2 := ob (fun j => x.testBit (i + 1 - 1 - j)) (i + 1)) (rv_s x i) ?_
        refine lv_lstore_n (lv' := [(3, .long (lN (ob (fun j => x.testBit (i + 1 - 1 - j)) (i + 1)))), (0, .long (lN (x))), (2, .int (zI (n))), (5, .int (zI (i)))]) hx hb dX3_reversed_21 rfl hl (by decide) rfl (fun ls hl => ?_)
        refine lv_iinc (v := zI (((i + 1 : Nat) : Int))) (lv' := [(5, .int (zI (((i + 1 : Nat) : Int)))), (3, .long (lN (ob (fun j => x.testBit (i + 1 - 1 - j)) (i + 1)))), (0, .long (lN (x))), (2, .int (zI (n)))]) hx hb dX3_reversed_22 hl (k := 3) rfl (zI_incr (by omega)) (by decide) rfl (fun ls hl => ?_)
        refine lv_goto (tgt := 5) hx hb dX3_reversed_25 (by decide) ?_
        exact ih5 (i + 1) (by omega) (by omega) _ (lv_sub hl [2, 3, 1, 0] rfl)
  exact lp5 _ (0) (by omega) (Nat.lt_succ_self _) _ (lv_sub hl [2, 3, 1, 0] rfl)

-- opposite(x, n)
set_option maxHeartbeats 4000000 in
set_option maxRecDepth 100000 in
theorem c_X3_opposite (l : Launch) (x n : Nat) (gn : n ≤ 32) : Met l yX3_opposite wsX3_opposite ({ frames := 1, cells := 0, slots := 0, locals := 20 }) (va_Pc [.long (lN (x)), .int (zI (n))] (fun _ => True)) (vp_Sl (fun r => r = lN (x ^^^ (2 ^ n - 1)))) 0 0 (fun _ => False) := by
  refine Met.ofW (cc := cX3_opposite) (maxL := 3) (ret := (some .long)) (by decide) rfl ?_
  intro p e s m args below meth c s₁ B hml hv
  obtain ⟨rfl, -⟩ := hv
  have hx := B.exec
  have hb := B.bytes
  have hr := B.returns
  have hts := atoms_spec (ws := wsX3_opposite) B.pre
  have hown : s.vm.findClass RX3 = some m.cls := findClass_of_methodNamed B.named
  have hlocks := B.notSynchronized
  have hl := lv_entry ([.long (lN (x)), .int (zI (n))]) (n := 3) (Nat.le_of_ble_eq_true rfl)
  rw [lg_entry_eq]
  generalize (lg_sl ([.long (lN (x)), .int (zI (n))]) ++ List.replicate (3 - (lg_sl ([.long (lN (x)), .int (zI (n))])).length) Slot.unset).toArray = ls at hl ⊢
  have hl : lv_has ls 3 [(0, .long (lN (x))), (2, .int (zI (n)))] := hl
  refine lv_lload_n hx hb dX3_opposite_0 rfl (lv_at hl 0 rfl) ?_
  refine lv_iload_n hx hb dX3_opposite_1 rfl (lv_at hl 1 rfl) ?_
  refine vp_callSl (va_runS (As := [.int (zI (n))]) (rest := [.long (lN (x))]) ⟨hx, hb, hml, hown, hts⟩ (c_X3_mask l n gn) (va_cwS 1 hts gX3_opposite_X3_mask rfl rfl rfl (by decide +kernel) ⟨Nat.le_of_ble_eq_true rfl, Nat.le_of_ble_eq_true rfl⟩) ⟨fun a U g mk q => q, fun U hU hW => ⟨rfl, trivial⟩⟩ rfl rfl hl.1 rfl (lv_room (Nat.le_of_ble_eq_true rfl)) dX3_opposite_2 ⟨Nat.le_of_ble_eq_true rfl, Nat.le_of_ble_eq_true rfl⟩).run (fun r hr2 => ?_)
  obtain rfl := hr2
  refine n_lxor hx hb dX3_opposite_5 ?_
  exact W.lret (v := (lN ((x) ^^^ (2 ^ (n) - 1)))) hx hb hr (fun tq ht hW => ⟨_, rfl, rfl, ht⟩) (fun q h => by cases h) dX3_opposite_6

-- turned(x, n, w)
set_option maxHeartbeats 4000000 in
set_option maxRecDepth 100000 in
theorem c_X3_turned (l : Launch) (x n w : Nat) (gn : n ≤ 32) (gx : x < 2 ^ n) (gw : w < 8) : Met l yX3_turned wsX3_turned ({ frames := 2, cells := 0, slots := 0, locals := 42 }) (va_Pc [.long (lN (x)), .int (zI (n)), .int (zI (w))] (fun _ => True)) (vp_Sl (fun r => r = lN (TWw n x w))) 0 0 (fun _ => False) := by
  refine Met.ofW (cc := cX3_turned) (maxL := 6) (ret := (some .long)) (by decide) rfl ?_
  intro p e s m args below meth c s₁ B hml hv
  obtain ⟨rfl, -⟩ := hv
  have hx := B.exec
  have hb := B.bytes
  have hr := B.returns
  have hts := atoms_spec (ws := wsX3_turned) B.pre
  have hown : s.vm.findClass RX3 = some m.cls := findClass_of_methodNamed B.named
  have hlocks := B.notSynchronized
  have hl := lv_entry ([.long (lN (x)), .int (zI (n)), .int (zI (w))]) (n := 6) (Nat.le_of_ble_eq_true rfl)
  rw [lg_entry_eq]
  generalize (lg_sl ([.long (lN (x)), .int (zI (n)), .int (zI (w))]) ++ List.replicate (6 - (lg_sl ([.long (lN (x)), .int (zI (n)), .int (zI (w))])).length) Slot.unset).toArray = ls at hl ⊢
  have hl : lv_has ls 6 [(0, .long (lN (x))), (2, .int (zI (n))), (3, .int (zI (w)))] := hl
  refine lv_iload_n hx hb dX3_turned_0 rfl (lv_at hl 2 rfl) ?_
  refine lv_iconst (v := zI 1) hx hb dX3_turned_1 rfl ?_
  refine n_iand hx hb (a := w) (b := 1) dX3_turned_2 ?_
  refine z_if_eq (tgt := 14) hx hb dX3_turned_3 (by decide) (and_rng w 1 gw) (fun c3 => ?_) (fun c3 => ?_)
  · refine lv_lload_n hx hb dX3_turned_14 rfl (lv_at hl 0 rfl) ?_
    refine n_re (e2 := TW n x (w.testBit 0) false false) (by rw [w_0 gw c3]; exact TW_x gx) ?_
    refine lv_lstore (lv' := [(4, .long (lN (TW n x (w.testBit 0) false false))), (0, .long (lN (x))), (2, .int (zI (n))), (3, .int (zI (w)))]) hx hb dX3_turned_15 hl (by decide) rfl (fun ls hl => ?_)
    refine lv_iload_n hx hb dX3_turned_17 rfl (lv_at hl 3 rfl) ?_
    refine lv_iconst (v := zI 2) hx hb dX3_turned_18 rfl ?_
    refine n_iand hx hb (a := w) (b := 2) dX3_turned_19 ?_
    refine z_if_eq (tgt := 32) hx hb dX3_turned_20 (by decide) (and_rng w 2 gw) (fun c20 => ?_) (fun c20 => ?_)
    · refine lv_lload hx hb dX3_turned_32 (lv_at hl 0 rfl) ?_
      refine n_re (e2 := TW n x (w.testBit 0) (w.testBit 1) false) (by rw [w_1 gw c20]) ?_
      refine lv_lstore (lv' := [(4, .long (lN (TW n x (w.testBit 0) (w.testBit 1) false))), (0, .long (lN (x))), (2, .int (zI (n))), (3, .int (zI (w)))]) hx hb dX3_turned_34 hl (by decide) rfl (fun ls hl => ?_)
      refine lv_iload_n hx hb dX3_turned_36 rfl (lv_at hl 3 rfl) ?_
      refine lv_iconst (v := zI 4) hx hb dX3_turned_37 rfl ?_
      refine n_iand hx hb (a := w) (b := 4) dX3_turned_38 ?_
      refine z_if_eq (tgt := 56) hx hb dX3_turned_39 (by decide) (and_rng w 4 gw) (fun c39 => ?_) (fun c39 => ?_)
      · refine lv_lload hx hb dX3_turned_56 (lv_at hl 0 rfl) ?_
        refine n_re (e2 := TW n x (w.testBit 0) (w.testBit 1) (w.testBit 2)) (by rw [w_2 gw c39]) ?_
        exact W.lret (v := (lN (TW n x (w.testBit 0) (w.testBit 1) (w.testBit 2)))) hx hb hr (fun tq ht hW => ⟨_, rfl, rfl, ht⟩) (fun q h => by cases h) dX3_turned_58
      · refine lv_lload hx hb dX3_turned_42 (lv_at hl 0 rfl) ?_
        refine lv_ldc2 (v := lN 2863311530) hx hb hown (hts (.constantLong RX3 40 (lN 2863311530)) (by decide +kernel)) dX3_turned_44 ?_
        refine lv_iload_n hx hb dX3_turned_47 rfl (lv_at hl 2 rfl) ?_
        refine vp_callSl (va_runS (As := [.int (zI (n))]) (rest := [.long (lN (2863311530)), .long (lN (TW n x (w.testBit 0) (w.testBit 1) false))]) ⟨hx, hb, hml, hown, hts⟩ (c_X3_mask l n gn) (va_cwS 1 hts gX3_turned_X3_mask rfl rfl rfl (by decide +kernel) ⟨Nat.le_of_ble_eq_true rfl, Nat.le_of_ble_eq_true rfl⟩) ⟨fun a U g mk q => q, fun U hU hW => ⟨rfl, trivial⟩⟩ rfl rfl hl.1 rfl (lv_room (Nat.le_of_ble_eq_true rfl)) dX3_turned_48 ⟨Nat.le_of_ble_eq_true rfl, Nat.le_of_ble_eq_true rfl⟩).run (fun r hr48 => ?_)
        obtain rfl := hr48
        refine n_land hx hb dX3_turned_51 ?_
        refine n_lxor hx hb dX3_turned_52 ?_
        refine n_re (e2 := TW n x (w.testBit 0) (w.testBit 1) (w.testBit 2)) (by rw [w_2' gw c39]; exact TW_sec gn x _ _) ?_
        refine lv_goto (tgt := 58) hx hb dX3_turned_53 (by decide) ?_
        exact W.lret (v := (lN (TW n x (w.testBit 0) (w.testBit 1) (w.testBit 2)))) hx hb hr (fun tq ht hW => ⟨_, rfl, rfl, ht⟩) (fun q h => by cases h) dX3_turned_58
    · refine lv_lload hx hb dX3_turned_23 (lv_at hl 0 rfl) ?_
      refine lv_iload_n hx hb dX3_turned_25 rfl (lv_at hl 2 rfl) ?_
      refine vp_callSl (va_runS (As := [.long (lN (TW n x (w.testBit 0) false false)), .int (zI (n))]) (rest := []) ⟨hx, hb, hml, hown, hts⟩ (c_X3_opposite l (TW n x (w.testBit 0) false false) n gn) (va_cwS 2 hts gX3_turned_X3_opposite rfl rfl rfl (by decide +kernel) ⟨Nat.le_of_ble_eq_true rfl, Nat.le_of_ble_eq_true rfl⟩) ⟨fun a U g mk q => q, fun U hU hW => ⟨rfl, trivial⟩⟩ rfl rfl hl.1 rfl (lv_room (Nat.le_of_ble_eq_true rfl)) dX3_turned_26 ⟨Nat.le_of_ble_eq_true rfl, Nat.le_of_ble_eq_true rfl⟩).run (fun r hr26 => ?_)
      obtain rfl := hr26
      refine n_re (e2 := TW n x (w.testBit 0) (w.testBit 1) false) (by rw [w_1' gw c20]; exact TW_op n x _) ?_
      refine lv_goto (tgt := 34) hx hb dX3_turned_29 (by decide) ?_
      refine lv_lstore (lv' := [(4, .long (lN (TW n x (w.testBit 0) (w.testBit 1) false))), (0, .long (lN (x))), (2, .int (zI (n))), (3, .int (zI (w)))]) hx hb dX3_turned_34 hl (by decide) rfl (fun ls hl => ?_)
      refine lv_iload_n hx hb dX3_turned_36 rfl (lv_at hl 3 rfl) ?_
      refine lv_iconst (v := zI 4) hx hb dX3_turned_37 rfl ?_
      refine n_iand hx hb (a := w) (b := 4) dX3_turned_38 ?_
      refine z_if_eq (tgt := 56) hx hb dX3_turned_39 (by decide) (and_rng w 4 gw) (fun c39 => ?_) (fun c39 => ?_)
      · refine lv_lload hx hb dX3_turned_56 (lv_at hl 0 rfl) ?_
        refine n_re (e2 := TW n x (w.testBit 0) (w.testBit 1) (w.testBit 2)) (by rw [w_2 gw c39]) ?_
        exact W.lret (v := (lN (TW n x (w.testBit 0) (w.testBit 1) (w.testBit 2)))) hx hb hr (fun tq ht hW => ⟨_, rfl, rfl, ht⟩) (fun q h => by cases h) dX3_turned_58
      · refine lv_lload hx hb dX3_turned_42 (lv_at hl 0 rfl) ?_
        refine lv_ldc2 (v := lN 2863311530) hx hb hown (hts (.constantLong RX3 40 (lN 2863311530)) (by decide +kernel)) dX3_turned_44 ?_
        refine lv_iload_n hx hb dX3_turned_47 rfl (lv_at hl 2 rfl) ?_
        refine vp_callSl (va_runS (As := [.int (zI (n))]) (rest := [.long (lN (2863311530)), .long (lN (TW n x (w.testBit 0) (w.testBit 1) false))]) ⟨hx, hb, hml, hown, hts⟩ (c_X3_mask l n gn) (va_cwS 1 hts gX3_turned_X3_mask rfl rfl rfl (by decide +kernel) ⟨Nat.le_of_ble_eq_true rfl, Nat.le_of_ble_eq_true rfl⟩) ⟨fun a U g mk q => q, fun U hU hW => ⟨rfl, trivial⟩⟩ rfl rfl hl.1 rfl (lv_room (Nat.le_of_ble_eq_true rfl)) dX3_turned_48 ⟨Nat.le_of_ble_eq_true rfl, Nat.le_of_ble_eq_true rfl⟩).run (fun r hr48 => ?_)
        obtain rfl := hr48
        refine n_land hx hb dX3_turned_51 ?_
        refine n_lxor hx hb dX3_turned_52 ?_
        refine n_re (e2 := TW n x (w.testBit 0) (w.testBit 1) (w.testBit 2)) (by rw [w_2' gw c39]; exact TW_sec gn x _ _) ?_
        refine lv_goto (tgt := 58) hx hb dX3_turned_53 (by decide) ?_
        exact W.lret (v := (lN (TW n x (w.testBit 0) (w.testBit 1) (w.testBit 2)))) hx hb hr (fun tq ht hW => ⟨_, rfl, rfl, ht⟩) (fun q h => by cases h) dX3_turned_58
  · refine lv_lload_n hx hb dX3_turned_6 rfl (lv_at hl 0 rfl) ?_
    refine lv_iload_n hx hb dX3_turned_7 rfl (lv_at hl 1 rfl) ?_
    refine vp_callSl (va_runS (As := [.long (lN (x)), .int (zI (n))]) (rest := []) ⟨hx, hb, hml, hown, hts⟩ (c_X3_reversed l x n gn gx) (va_cwS 2 hts gX3_turned_X3_reversed rfl rfl rfl (by decide +kernel) ⟨Nat.le_of_ble_eq_true rfl, Nat.le_of_ble_eq_true rfl⟩) ⟨fun a U g mk q => q, fun U hU hW => ⟨rfl, trivial⟩⟩ rfl rfl hl.1 rfl (lv_room (Nat.le_of_ble_eq_true rfl)) dX3_turned_8 ⟨Nat.le_of_ble_eq_true rfl, Nat.le_of_ble_eq_true rfl⟩).run (fun r hr8 => ?_)
    obtain rfl := hr8
    refine n_re (e2 := TW n x (w.testBit 0) false false) (by rw [w_0' gw c3]; exact TW_rev n x) ?_
    refine lv_goto (tgt := 15) hx hb dX3_turned_11 (by decide) ?_
    refine lv_lstore (lv' := [(4, .long (lN (TW n x (w.testBit 0) false false))), (0, .long (lN (x))), (2, .int (zI (n))), (3, .int (zI (w)))]) hx hb dX3_turned_15 hl (by decide) rfl (fun ls hl => ?_)
    refine lv_iload_n hx hb dX3_turned_17 rfl (lv_at hl 3 rfl) ?_
    refine lv_iconst (v := zI 2) hx hb dX3_turned_18 rfl ?_
    refine n_iand hx hb (a := w) (b := 2) dX3_turned_19 ?_
    refine z_if_eq (tgt := 32) hx hb dX3_turned_20 (by decide) (and_rng w 2 gw) (fun c20 => ?_) (fun c20 => ?_)
    · refine lv_lload hx hb dX3_turned_32 (lv_at hl 0 rfl) ?_
      refine n_re (e2 := TW n x (w.testBit 0) (w.testBit 1) false) (by rw [w_1 gw c20]) ?_
      refine lv_lstore (lv' := [(4, .long (lN (TW n x (w.testBit 0) (w.testBit 1) false))), (0, .long (lN (x))), (2, .int (zI (n))), (3, .int (zI (w)))]) hx hb dX3_turned_34 hl (by decide) rfl (fun ls hl => ?_)
      refine lv_iload_n hx hb dX3_turned_36 rfl (lv_at hl 3 rfl) ?_
      refine lv_iconst (v := zI 4) hx hb dX3_turned_37 rfl ?_
      refine n_iand hx hb (a := w) (b := 4) dX3_turned_38 ?_
      refine z_if_eq (tgt := 56) hx hb dX3_turned_39 (by decide) (and_rng w 4 gw) (fun c39 => ?_) (fun c39 => ?_)
      · refine lv_lload hx hb dX3_turned_56 (lv_at hl 0 rfl) ?_
        refine n_re (e2 := TW n x (w.testBit 0) (w.testBit 1) (w.testBit 2)) (by rw [w_2 gw c39]) ?_
        exact W.lret (v := (lN (TW n x (w.testBit 0) (w.testBit 1) (w.testBit 2)))) hx hb hr (fun tq ht hW => ⟨_, rfl, rfl, ht⟩) (fun q h => by cases h) dX3_turned_58
      · refine lv_lload hx hb dX3_turned_42 (lv_at hl 0 rfl) ?_
        refine lv_ldc2 (v := lN 2863311530) hx hb hown (hts (.constantLong RX3 40 (lN 2863311530)) (by decide +kernel)) dX3_turned_44 ?_
        refine lv_iload_n hx hb dX3_turned_47 rfl (lv_at hl 2 rfl) ?_
        refine vp_callSl (va_runS (As := [.int (zI (n))]) (rest := [.long (lN (2863311530)), .long (lN (TW n x (w.testBit 0) (w.testBit 1) false))]) ⟨hx, hb, hml, hown, hts⟩ (c_X3_mask l n gn) (va_cwS 1 hts gX3_turned_X3_mask rfl rfl rfl (by decide +kernel) ⟨Nat.le_of_ble_eq_true rfl, Nat.le_of_ble_eq_true rfl⟩) ⟨fun a U g mk q => q, fun U hU hW => ⟨rfl, trivial⟩⟩ rfl rfl hl.1 rfl (lv_room (Nat.le_of_ble_eq_true rfl)) dX3_turned_48 ⟨Nat.le_of_ble_eq_true rfl, Nat.le_of_ble_eq_true rfl⟩).run (fun r hr48 => ?_)
        obtain rfl := hr48
        refine n_land hx hb dX3_turned_51 ?_
        refine n_lxor hx hb dX3_turned_52 ?_
        refine n_re (e2 := TW n x (w.testBit 0) (w.testBit 1) (w.testBit 2)) (by rw [w_2' gw c39]; exact TW_sec gn x _ _) ?_
        refine lv_goto (tgt := 58) hx hb dX3_turned_53 (by decide) ?_
        exact W.lret (v := (lN (TW n x (w.testBit 0) (w.testBit 1) (w.testBit 2)))) hx hb hr (fun tq ht hW => ⟨_, rfl, rfl, ht⟩) (fun q h => by cases h) dX3_turned_58
    · refine lv_lload hx hb dX3_turned_23 (lv_at hl 0 rfl) ?_
      refine lv_iload_n hx hb dX3_turned_25 rfl (lv_at hl 2 rfl) ?_
      refine vp_callSl (va_runS (As := [.long (lN (TW n x (w.testBit 0) false false)), .int (zI (n))]) (rest := []) ⟨hx, hb, hml, hown, hts⟩ (c_X3_opposite l (TW n x (w.testBit 0) false false) n gn) (va_cwS 2 hts gX3_turned_X3_opposite rfl rfl rfl (by decide +kernel) ⟨Nat.le_of_ble_eq_true rfl, Nat.le_of_ble_eq_true rfl⟩) ⟨fun a U g mk q => q, fun U hU hW => ⟨rfl, trivial⟩⟩ rfl rfl hl.1 rfl (lv_room (Nat.le_of_ble_eq_true rfl)) dX3_turned_26 ⟨Nat.le_of_ble_eq_true rfl, Nat.le_of_ble_eq_true rfl⟩).run (fun r hr26 => ?_)
      obtain rfl := hr26
      refine n_re (e2 := TW n x (w.testBit 0) (w.testBit 1) false) (by rw [w_1' gw c20]; exact TW_op n x _) ?_
      refine lv_goto (tgt := 34) hx hb dX3_turned_29 (by decide) ?_
      refine lv_lstore (lv' := [(4, .long (lN (TW n x (w.testBit 0) (w.testBit 1) false))), (0, .long (lN (x))), (2, .int (zI (n))), (3, .int (zI (w)))]) hx hb dX3_turned_34 hl (by decide) rfl (fun ls hl => ?_)
      refine lv_iload_n hx hb dX3_turned_36 rfl (lv_at hl 3 rfl) ?_
      refine lv_iconst (v := zI 4) hx hb dX3_turned_37 rfl ?_
      refine n_iand hx hb (a := w) (b := 4) dX3_turned_38 ?_
      refine z_if_eq (tgt := 56) hx hb dX3_turned_39 (by decide) (and_rng w 4 gw) (fun c39 => ?_) (fun c39 => ?_)
      · refine lv_lload hx hb dX3_turned_56 (lv_at hl 0 rfl) ?_
        refine n_re (e2 := TW n x (w.testBit 0) (w.testBit 1) (w.testBit 2)) (by rw [w_2 gw c39]) ?_
        exact W.lret (v := (lN (TW n x (w.testBit 0) (w.testBit 1) (w.testBit 2)))) hx hb hr (fun tq ht hW => ⟨_, rfl, rfl, ht⟩) (fun q h => by cases h) dX3_turned_58
      · refine lv_lload hx hb dX3_turned_42 (lv_at hl 0 rfl) ?_
        refine lv_ldc2 (v := lN 2863311530) hx hb hown (hts (.constantLong RX3 40 (lN 2863311530)) (by decide +kernel)) dX3_turned_44 ?_
        refine lv_iload_n hx hb dX3_turned_47 rfl (lv_at hl 2 rfl) ?_
        refine vp_callSl (va_runS (As := [.int (zI (n))]) (rest := [.long (lN (2863311530)), .long (lN (TW n x (w.testBit 0) (w.testBit 1) false))]) ⟨hx, hb, hml, hown, hts⟩ (c_X3_mask l n gn) (va_cwS 1 hts gX3_turned_X3_mask rfl rfl rfl (by decide +kernel) ⟨Nat.le_of_ble_eq_true rfl, Nat.le_of_ble_eq_true rfl⟩) ⟨fun a U g mk q => q, fun U hU hW => ⟨rfl, trivial⟩⟩ rfl rfl hl.1 rfl (lv_room (Nat.le_of_ble_eq_true rfl)) dX3_turned_48 ⟨Nat.le_of_ble_eq_true rfl, Nat.le_of_ble_eq_true rfl⟩).run (fun r hr48 => ?_)
        obtain rfl := hr48
        refine n_land hx hb dX3_turned_51 ?_
        refine n_lxor hx hb dX3_turned_52 ?_
        refine n_re (e2 := TW n x (w.testBit 0) (w.testBit 1) (w.testBit 2)) (by rw [w_2' gw c39]; exact TW_sec gn x _ _) ?_
        refine lv_goto (tgt := 58) hx hb dX3_turned_53 (by decide) ?_
        exact W.lret (v := (lN (TW n x (w.testBit 0) (w.testBit 1) (w.testBit 2)))) hx hb hr (fun tq ht hW => ⟨_, rfl, rfl, ht⟩) (fun q h => by cases h) dX3_turned_58

-- leastTurned(x, n)
set_option maxHeartbeats 4000000 in
set_option maxRecDepth 100000 in
theorem c_X3_leastTurned (l : Launch) (x n : Nat) (gn : n ≤ 32) (gx : x < 2 ^ n) : Met l yX3_leastTurned wsX3_leastTurned ({ frames := 3, cells := 0, slots := 0, locals := 67 }) (va_Pc [.long (lN (x)), .int (zI (n))] (fun _ => True)) (vp_Sl (fun r => r = lN (ltw n x 8))) 0 0 (fun _ => False) := by
  refine Met.ofW (cc := cX3_leastTurned) (maxL := 6) (ret := (some .long)) (by decide) rfl ?_
  intro p e s m args below meth c s₁ B hml hv
  obtain ⟨rfl, -⟩ := hv
  have hx := B.exec
  have hb := B.bytes
  have hr := B.returns
  have hts := atoms_spec (ws := wsX3_leastTurned) B.pre
  have hown : s.vm.findClass RX3 = some m.cls := findClass_of_methodNamed B.named
  have hlocks := B.notSynchronized
  have hl := lv_entry ([.long (lN (x)), .int (zI (n))]) (n := 6) (Nat.le_of_ble_eq_true rfl)
  rw [lg_entry_eq]
  generalize (lg_sl ([.long (lN (x)), .int (zI (n))]) ++ List.replicate (6 - (lg_sl ([.long (lN (x)), .int (zI (n))])).length) Slot.unset).toArray = ls at hl ⊢
  have hl : lv_has ls 6 [(0, .long (lN (x))), (2, .int (zI (n)))] := hl
  refine lv_lload_n hx hb dX3_leastTurned_0 rfl (lv_at hl 0 rfl) ?_
  refine n_re (e2 := ltw n x 1) ((ltw_1 gx).symm) ?_
  refine lv_lstore_n (lv' := [(3, .long (lN (ltw n x 1))), (0, .long (lN (x))), (2, .int (zI (n)))]) hx hb dX3_leastTurned_1 rfl hl (by decide) rfl (fun ls hl => ?_)
  refine lv_iconst (v := zI 1) hx hb dX3_leastTurned_2 rfl ?_
  refine z_re (e2 := ((1 : Nat) : Int)) (rfl) ?_
  refine lv_istore (lv' := [(5, .int (zI (((1 : Nat) : Int)))), (3, .long (lN (ltw n x 1))), (0, .long (lN (x))), (2, .int (zI (n)))]) hx hb dX3_leastTurned_3 hl (by decide) rfl (fun ls hl => ?_)
  have lp5 : ∀ (NN : Nat) (w : Nat) (q1 : 1 ≤ w) (q2 : w ≤ 8), 8 - w < NN → ∀ (ls : Array Slot), lv_has ls 6 [(0, .long (lN (x))), (2, .int (zI (n))), (3, .long (lN (ltw n x w))), (5, .int (zI (w)))] → W p l e (headSpec wsX3_leastTurned ({ frames := 3, cells := 0, slots := 0, locals := 67 })).room s m ([.long (lN (x)), .int (zI (n))] : List Value).toArray below meth c s.heap [] 0 0 (MQ below (vp_Sl (fun r => r = lN (ltw n x 8))) ([.long (lN (x)), .int (zI (n))] : List Value).toArray s 0 0 (fun _ => False)) (F0 m 5 ls []) := by
    intro NN
    induction NN with
    | zero =>
      intro w q1 q2 hmu
      exact absurd hmu (Nat.not_lt_zero _)
    | succ NN ih5 =>
      intro w q1 q2 hmu ls hl
      have b1 := lt32 (ltw_lt gx w) gn
      have b2 := lt32 (TWw_lt n x w) gn
      refine lv_iload hx hb dX3_leastTurned_5 (lv_at hl 3 rfl) ?_
      refine lv_bipush (v := zI 8) hx hb dX3_leastTurned_7 (by decide +kernel) ?_
      refine z_icmp_ge (tgt := 30) hx hb dX3_leastTurned_9 (by decide) (by omega) (by omega) (fun c9 => ?_) (fun c9 => ?_)
      · refine lv_lload_n hx hb dX3_leastTurned_30 rfl (lv_at hl 2 rfl) ?_
        exact W.lret (v := (lN (ltw n x w))) hx hb hr (fun tq ht hW => ⟨_, rfl, by rw [show w = 8 by omega], ht⟩) (fun q h => by cases h) dX3_leastTurned_31
      · refine lv_lload_n hx hb dX3_leastTurned_12 rfl (lv_at hl 2 rfl) ?_
        refine lv_lload_n hx hb dX3_leastTurned_13 rfl (lv_at hl 0 rfl) ?_
        refine lv_iload_n hx hb dX3_leastTurned_14 rfl (lv_at hl 1 rfl) ?_
        refine lv_iload hx hb dX3_leastTurned_15 (lv_at hl 3 rfl) ?_
        refine vp_callSl (va_runS (As := [.long (lN (x)), .int (zI (n)), .int (zI (w))]) (rest := [.long (lN (ltw n x w))]) ⟨hx, hb, hml, hown, hts⟩ (c_X3_turned l x n w gn gx (by omega)) (va_cwS 3 hts gX3_leastTurned_X3_turned rfl rfl rfl (by decide +kernel) ⟨Nat.le_of_ble_eq_true rfl, Nat.le_of_ble_eq_true rfl⟩) ⟨fun a U g mk q => q, fun U hU hW => ⟨rfl, trivial⟩⟩ rfl rfl hl.1 rfl (lv_room (Nat.le_of_ble_eq_true rfl)) dX3_leastTurned_17 ⟨Nat.le_of_ble_eq_true rfl, Nat.le_of_ble_eq_true rfl⟩).run (fun r hr17 => ?_)
        obtain rfl := hr17
        refine z_mminl hx hb (hml.trans hl.1.symm) hown (hts (.methodLink RX3 46 Lib.MathLoose.min_long.x) (by decide +kernel)) (hts (.static Lib.MathLoose.min_long.x) (by decide +kernel)) (hts (.initialized "java/lang/Math") (by decide +kernel)) (hts (.code Lib.MathLoose.min_long.x Lib.MathLoose.min_long.code 4 (some .long)) (by decide +kernel)) (Nat.le_of_ble_eq_true rfl) (Nat.le_of_ble_eq_true rfl) (Nat.le_of_ble_eq_true rfl) (Nat.le_of_ble_eq_true rfl) (by omega) (by omega) dX3_leastTurned_20 ?_
        refine n_re (e2 := ltw n x (w + 1)) (rfl) ?_
        refine lv_lstore_n (lv' := [(3, .long (lN (ltw n x (w + 1)))), (0, .long (lN (x))), (2, .int (zI (n))), (5, .int (zI (w)))]) hx hb dX3_leastTurned_23 rfl hl (by decide) rfl (fun ls hl => ?_)
        refine lv_iinc (v := zI (((w + 1 : Nat) : Int))) (lv' := [(5, .int (zI (((w + 1 : Nat) : Int)))), (3, .long (lN (ltw n x (w + 1)))), (0, .long (lN (x))), (2, .int (zI (n)))]) hx hb dX3_leastTurned_24 hl (k := 3) rfl (zI_incr (by omega)) (by decide) rfl (fun ls hl => ?_)
        refine lv_goto (tgt := 5) hx hb dX3_leastTurned_27 (by decide) ?_
        exact ih5 (w + 1) (by omega) (by omega) (by omega) _ (lv_sub hl [2, 3, 1, 0] rfl)
  exact lp5 _ (1) (by omega) (by omega) (Nat.lt_succ_self _) _ (lv_sub hl [2, 3, 1, 0] rfl)

-- isNewTurned(x, n, w)
set_option maxHeartbeats 4000000 in
set_option maxRecDepth 100000 in
theorem c_X3_isNewTurned (l : Launch) (x n w : Nat) (gn : n ≤ 32) (gx : x < 2 ^ n) (gw : w < 8) : Met l yX3_isNewTurned wsX3_isNewTurned ({ frames := 3, cells := 0, slots := 0, locals := 67 }) (va_Pc [.long (lN (x)), .int (zI (n)), .int (zI (w))] (fun _ => True)) (vp_Si (fun r => r = zI (bP (nwT n x w = true)))) 0 0 (fun _ => False) := by
  refine Met.ofW (cc := cX3_isNewTurned) (maxL := 7) (ret := (some .boolean)) (by decide) rfl ?_
  intro p e s m args below meth c s₁ B hml hv
  obtain ⟨rfl, -⟩ := hv
  have hx := B.exec
  have hb := B.bytes
  have hr := B.returns
  have hts := atoms_spec (ws := wsX3_isNewTurned) B.pre
  have hown : s.vm.findClass RX3 = some m.cls := findClass_of_methodNamed B.named
  have hlocks := B.notSynchronized
  have hl := lv_entry ([.long (lN (x)), .int (zI (n)), .int (zI (w))]) (n := 7) (Nat.le_of_ble_eq_true rfl)
  rw [lg_entry_eq]
  generalize (lg_sl ([.long (lN (x)), .int (zI (n)), .int (zI (w))]) ++ List.replicate (7 - (lg_sl ([.long (lN (x)), .int (zI (n)), .int (zI (w))])).length) Slot.unset).toArray = ls at hl ⊢
  have hl : lv_has ls 7 [(0, .long (lN (x))), (2, .int (zI (n))), (3, .int (zI (w)))] := hl
  refine lv_lload_n hx hb dX3_isNewTurned_0 rfl (lv_at hl 0 rfl) ?_
  refine lv_iload_n hx hb dX3_isNewTurned_1 rfl (lv_at hl 1 rfl) ?_
  refine lv_iload_n hx hb dX3_isNewTurned_2 rfl (lv_at hl 2 rfl) ?_
  refine vp_callSl (va_runS (As := [.long (lN (x)), .int (zI (n)), .int (zI (w))]) (rest := []) ⟨hx, hb, hml, hown, hts⟩ (c_X3_turned l x n w gn gx gw) (va_cwS 3 hts gX3_isNewTurned_X3_turned rfl rfl rfl (by decide +kernel) ⟨Nat.le_of_ble_eq_true rfl, Nat.le_of_ble_eq_true rfl⟩) ⟨fun a U g mk q => q, fun U hU hW => ⟨rfl, trivial⟩⟩ rfl rfl hl.1 rfl (lv_room (Nat.le_of_ble_eq_true rfl)) dX3_isNewTurned_3 ⟨Nat.le_of_ble_eq_true rfl, Nat.le_of_ble_eq_true rfl⟩).run (fun r hr3 => ?_)
  obtain rfl := hr3
  refine lv_lstore (lv' := [(4, .long (lN (TWw (n) (x) (w)))), (0, .long (lN (x))), (2, .int (zI (n))), (3, .int (zI (w)))]) hx hb dX3_isNewTurned_6 hl (by decide) rfl (fun ls hl => ?_)
  refine lv_iconst (v := zI 0) hx hb dX3_isNewTurned_8 rfl ?_
  refine z_re (e2 := ((0 : Nat) : Int)) (rfl) ?_
  refine lv_istore (lv' := [(6, .int (zI (((0 : Nat) : Int)))), (4, .long (lN (TWw (n) (x) (w)))), (0, .long (lN (x))), (2, .int (zI (n))), (3, .int (zI (w)))]) hx hb dX3_isNewTurned_9 hl (by decide) rfl (fun ls hl => ?_)
  have lp11 : ∀ (NN : Nat) (j : Nat) (q1 : j ≤ w) (q2 : ∀ i, i < j → ¬ TWw n x i = TWw n x w), w - j < NN → ∀ (ls : Array Slot), lv_has ls 7 [(0, .long (lN (x))), (2, .int (zI (n))), (3, .int (zI (w))), (4, .long (lN (TWw n x w))), (6, .int (zI (j)))] → W p l e (headSpec wsX3_isNewTurned ({ frames := 3, cells := 0, slots := 0, locals := 67 })).room s m ([.long (lN (x)), .int (zI (n)), .int (zI (w))] : List Value).toArray below meth c s.heap [] 0 0 (MQ below (vp_Si (fun r => r = zI (bP (nwT n x w = true)))) ([.long (lN (x)), .int (zI (n)), .int (zI (w))] : List Value).toArray s 0 0 (fun _ => False)) (F0 m 11 ls []) := by
    intro NN
    induction NN with
    | zero =>
      intro j q1 q2 hmu
      exact absurd hmu (Nat.not_lt_zero _)
    | succ NN ih11 =>
      intro j q1 q2 hmu ls hl
      have b1 := lt32 (TWw_lt n x w) gn
      have b2 := lt32 (TWw_lt n x j) gn
      refine lv_iload hx hb dX3_isNewTurned_11 (lv_at hl 4 rfl) ?_
      refine lv_iload_n hx hb dX3_isNewTurned_13 rfl (lv_at hl 2 rfl) ?_
      refine z_icmp_ge (tgt := 38) hx hb dX3_isNewTurned_14 (by decide) (by omega) (by omega) (fun c14 => ?_) (fun c14 => ?_)
      · refine lv_iconst (v := zI 1) hx hb dX3_isNewTurned_38 rfl ?_
        exact W.zret (v := (zI (1))) hx hb hr (nar_b _ (by first | exact Or.inl rfl | exact Or.inr rfl | exact bP_or _)) (fun tq ht hW => ⟨_, rfl, by rw [bP_1 (nwT_iff.mpr (fun i hi => q2 i (by omega)))], ht⟩) (fun q h => by cases h) dX3_isNewTurned_39
      · refine lv_lload_n hx hb dX3_isNewTurned_17 rfl (lv_at hl 0 rfl) ?_
        refine lv_iload_n hx hb dX3_isNewTurned_18 rfl (lv_at hl 1 rfl) ?_
        refine lv_iload hx hb dX3_isNewTurned_19 (lv_at hl 4 rfl) ?_
        refine vp_callSl (va_runS (As := [.long (lN (x)), .int (zI (n)), .int (zI (j))]) (rest := []) ⟨hx, hb, hml, hown, hts⟩ (c_X3_turned l x n j gn gx (by omega)) (va_cwS 3 hts gX3_isNewTurned_X3_turned rfl rfl rfl (by decide +kernel) ⟨Nat.le_of_ble_eq_true rfl, Nat.le_of_ble_eq_true rfl⟩) ⟨fun a U g mk q => q, fun U hU hW => ⟨rfl, trivial⟩⟩ rfl rfl hl.1 rfl (lv_room (Nat.le_of_ble_eq_true rfl)) dX3_isNewTurned_21 ⟨Nat.le_of_ble_eq_true rfl, Nat.le_of_ble_eq_true rfl⟩).run (fun r hr21 => ?_)
        obtain rfl := hr21
        refine lv_lload hx hb dX3_isNewTurned_24 (lv_at hl 3 rfl) ?_
        refine z_lcmp_ne (a := ((TWw (n) (x) (j) : Nat) : Int)) (b := ((TWw n x w : Nat) : Int)) (tgt := 32) hx hb dX3_isNewTurned_26 dX3_isNewTurned_27 (by decide) (lN_toI (n := TWw (n) (x) (j)) (by omega)) (lN_toI (n := TWw n x w) (by omega)) (fun c26 => ?_) (fun c26 => ?_)
        · refine lv_iinc (v := zI (((j + 1 : Nat) : Int))) (lv' := [(6, .int (zI (((j + 1 : Nat) : Int)))), (0, .long (lN (x))), (2, .int (zI (n))), (3, .int (zI (w))), (4, .long (lN (TWw n x w)))]) hx hb dX3_isNewTurned_32 hl (k := 4) rfl (zI_incr (by omega)) (by decide) rfl (fun ls hl => ?_)
          refine lv_goto (tgt := 11) hx hb dX3_isNewTurned_35 (by decide) ?_
          exact ih11 (j + 1) (by omega) (fun i hi => (Nat.lt_succ_iff_lt_or_eq.mp hi).elim (q2 i) (fun z => by rw [z]; exact fun y => c26 (by rw [y]))) (by omega) _ (lv_sub hl [1, 2, 3, 4, 0] rfl)
        · refine lv_iconst (v := zI 0) hx hb dX3_isNewTurned_30 rfl ?_
          exact W.zret (v := (zI (0))) hx hb hr (nar_b _ (by first | exact Or.inl rfl | exact Or.inr rfl | exact bP_or _)) (fun tq ht hW => ⟨_, rfl, by rw [bP_0 (fun z => nwT_iff.mp z j (by omega) (by omega))], ht⟩) (fun q h => by cases h) dX3_isNewTurned_31
  exact lp11 _ (0) (by omega) (fun i hi => absurd hi (Nat.not_lt_zero i)) (Nat.lt_succ_self _) _ (lv_sub hl [2, 3, 4, 1, 0] rfl)

-- unlikeTurned(x, n)
set_option maxHeartbeats 4000000 in
set_option maxRecDepth 100000 in
theorem c_X3_unlikeTurned (l : Launch) (x n : Nat) (gn : n ≤ 32) (gx : x < 2 ^ n) : Met l yX3_unlikeTurned wsX3_unlikeTurned ({ frames := 4, cells := 0, slots := 0, locals := 93 }) (va_Pc [.long (lN (x)), .int (zI (n))] (fun _ => True)) (vp_Si (fun r => r = zI (cntw n x 8 : Int))) 0 0 (fun _ => False) := by
  refine Met.ofW (cc := cX3_unlikeTurned) (maxL := 5) (ret := (some .int)) (by decide) rfl ?_
  intro p e s m args below meth c s₁ B hml hv
  obtain ⟨rfl, -⟩ := hv
  have hx := B.exec
  have hb := B.bytes
  have hr := B.returns
  have hts := atoms_spec (ws := wsX3_unlikeTurned) B.pre
  have hown : s.vm.findClass RX3 = some m.cls := findClass_of_methodNamed B.named
  have hlocks := B.notSynchronized
  have hl := lv_entry ([.long (lN (x)), .int (zI (n))]) (n := 5) (Nat.le_of_ble_eq_true rfl)
  rw [lg_entry_eq]
  generalize (lg_sl ([.long (lN (x)), .int (zI (n))]) ++ List.replicate (5 - (lg_sl ([.long (lN (x)), .int (zI (n))])).length) Slot.unset).toArray = ls at hl ⊢
  have hl : lv_has ls 5 [(0, .long (lN (x))), (2, .int (zI (n)))] := hl
  refine lv_iconst (v := zI 0) hx hb dX3_unlikeTurned_0 rfl ?_
  refine z_re (e2 := ((cntw n x 0 : Nat) : Int)) (rfl) ?_
  refine lv_istore_n (lv' := [(3, .int (zI (((cntw n x 0 : Nat) : Int)))), (0, .long (lN (x))), (2, .int (zI (n)))]) hx hb dX3_unlikeTurned_1 rfl hl (by decide) rfl (fun ls hl => ?_)
  refine lv_iconst (v := zI 0) hx hb dX3_unlikeTurned_2 rfl ?_
  refine z_re (e2 := ((0 : Nat) : Int)) (rfl) ?_
  refine lv_istore (lv' := [(4, .int (zI (((0 : Nat) : Int)))), (3, .int (zI (((cntw n x 0 : Nat) : Int)))), (0, .long (lN (x))), (2, .int (zI (n)))]) hx hb dX3_unlikeTurned_3 hl (by decide) rfl (fun ls hl => ?_)
  have lp5 : ∀ (NN : Nat) (w : Nat) (q2 : w ≤ 8), 8 - w < NN → ∀ (ls : Array Slot), lv_has ls 5 [(0, .long (lN (x))), (2, .int (zI (n))), (3, .int (zI (((cntw n x w : Nat) : Int)))), (4, .int (zI (w)))] → W p l e (headSpec wsX3_unlikeTurned ({ frames := 4, cells := 0, slots := 0, locals := 93 })).room s m ([.long (lN (x)), .int (zI (n))] : List Value).toArray below meth c s.heap [] 0 0 (MQ below (vp_Si (fun r => r = zI (cntw n x 8 : Int))) ([.long (lN (x)), .int (zI (n))] : List Value).toArray s 0 0 (fun _ => False)) (F0 m 5 ls []) := by
    intro NN
    induction NN with
    | zero =>
      intro w q2 hmu
      exact absurd hmu (Nat.not_lt_zero _)
    | succ NN ih5 =>
      intro w q2 hmu ls hl
      refine lv_iload hx hb dX3_unlikeTurned_5 (lv_at hl 3 rfl) ?_
      refine lv_bipush (v := zI 8) hx hb dX3_unlikeTurned_7 (by decide +kernel) ?_
      refine z_icmp_ge (tgt := 36) hx hb dX3_unlikeTurned_9 (by decide) (by omega) (by omega) (fun c9 => ?_) (fun c9 => ?_)
      · refine lv_iload_n hx hb dX3_unlikeTurned_36 rfl (lv_at hl 2 rfl) ?_
        exact W.iret (v := (zI (((cntw n x w : Nat) : Int)))) hx hb hr (fun tq ht hW => ⟨_, rfl, by rw [show w = 8 by omega], ht⟩) (fun q h => by cases h) dX3_unlikeTurned_37
      · refine lv_iload_n hx hb dX3_unlikeTurned_12 rfl (lv_at hl 2 rfl) ?_
        refine lv_lload_n hx hb dX3_unlikeTurned_13 rfl (lv_at hl 0 rfl) ?_
        refine lv_iload_n hx hb dX3_unlikeTurned_14 rfl (lv_at hl 1 rfl) ?_
        refine lv_iload hx hb dX3_unlikeTurned_15 (lv_at hl 3 rfl) ?_
        refine vp_callSi (va_runS (As := [.long (lN (x)), .int (zI (n)), .int (zI (w))]) (rest := [.int (zI (((cntw n x w : Nat) : Int)))]) ⟨hx, hb, hml, hown, hts⟩ (c_X3_isNewTurned l x n w gn gx (by omega)) (va_cwS 3 hts gX3_unlikeTurned_X3_isNewTurned rfl rfl rfl (by decide +kernel) ⟨Nat.le_of_ble_eq_true rfl, Nat.le_of_ble_eq_true rfl⟩) ⟨fun a U g mk q => q, fun U hU hW => ⟨rfl, trivial⟩⟩ rfl rfl hl.1 rfl (lv_room (Nat.le_of_ble_eq_true rfl)) dX3_unlikeTurned_17 ⟨Nat.le_of_ble_eq_true rfl, Nat.le_of_ble_eq_true rfl⟩).run (fun r hr17 => ?_)
        obtain rfl := hr17
        refine z_ifb_eq (P := nwT (n) (x) (w) = true) (tgt := 27) hx hb dX3_unlikeTurned_20 (by decide) (fun c20 => ?_) (fun c20 => ?_)
        · refine lv_iconst (v := zI 0) hx hb dX3_unlikeTurned_27 rfl ?_
          refine z_iadd hx hb dX3_unlikeTurned_28 ?_
          refine z_re (e2 := ((cntw n x (w + 1) : Nat) : Int)) (by rw [cntw_s, if_neg c20]; omega) ?_
          refine lv_istore_n (lv' := [(3, .int (zI (((cntw n x (w + 1) : Nat) : Int)))), (0, .long (lN (x))), (2, .int (zI (n))), (4, .int (zI (w)))]) hx hb dX3_unlikeTurned_29 rfl hl (by decide) rfl (fun ls hl => ?_)
          refine lv_iinc (v := zI (((w + 1 : Nat) : Int))) (lv' := [(4, .int (zI (((w + 1 : Nat) : Int)))), (3, .int (zI (((cntw n x (w + 1) : Nat) : Int)))), (0, .long (lN (x))), (2, .int (zI (n)))]) hx hb dX3_unlikeTurned_30 hl (k := 3) rfl (zI_incr (by omega)) (by decide) rfl (fun ls hl => ?_)
          refine lv_goto (tgt := 5) hx hb dX3_unlikeTurned_33 (by decide) ?_
          exact ih5 (w + 1) (by omega) (by omega) _ (lv_sub hl [2, 3, 1, 0] rfl)
        · refine lv_iconst (v := zI 1) hx hb dX3_unlikeTurned_23 rfl ?_
          refine lv_goto (tgt := 28) hx hb dX3_unlikeTurned_24 (by decide) ?_
          refine z_iadd hx hb dX3_unlikeTurned_28 ?_
          refine z_re (e2 := ((cntw n x (w + 1) : Nat) : Int)) (by rw [cntw_s, if_pos c20]; omega) ?_
          refine lv_istore_n (lv' := [(3, .int (zI (((cntw n x (w + 1) : Nat) : Int)))), (0, .long (lN (x))), (2, .int (zI (n))), (4, .int (zI (w)))]) hx hb dX3_unlikeTurned_29 rfl hl (by decide) rfl (fun ls hl => ?_)
          refine lv_iinc (v := zI (((w + 1 : Nat) : Int))) (lv' := [(4, .int (zI (((w + 1 : Nat) : Int)))), (3, .int (zI (((cntw n x (w + 1) : Nat) : Int)))), (0, .long (lN (x))), (2, .int (zI (n)))]) hx hb dX3_unlikeTurned_30 hl (k := 3) rfl (zI_incr (by omega)) (by decide) rfl (fun ls hl => ?_)
          refine lv_goto (tgt := 5) hx hb dX3_unlikeTurned_33 (by decide) ?_
          exact ih5 (w + 1) (by omega) (by omega) _ (lv_sub hl [2, 3, 1, 0] rfl)
  exact lp5 _ (0) (by omega) (Nat.lt_succ_self _) _ (lv_sub hl [2, 3, 1, 0] rfl)

-- joined(a, la, b)
set_option maxHeartbeats 4000000 in
set_option maxRecDepth 100000 in
theorem c_X3_joined (l : Launch) (a la b : Nat) (gl : la < 64) : Met l yX3_joined wsX3_joined ({ frames := 0, cells := 0, slots := 0, locals := 0 }) (va_Pc [.long (lN (a)), .int (zI (la)), .long (lN (b))] (fun _ => True)) (vp_Sl (fun r => r = lN (jn a la b))) 0 0 (fun _ => False) := by
  refine Met.ofW (cc := cX3_joined) (maxL := 5) (ret := (some .long)) (by decide) rfl ?_
  intro p e s m args below meth c s₁ B hml hv
  obtain ⟨rfl, -⟩ := hv
  have hx := B.exec
  have hb := B.bytes
  have hr := B.returns
  have hts := atoms_spec (ws := wsX3_joined) B.pre
  have hown : s.vm.findClass RX3 = some m.cls := findClass_of_methodNamed B.named
  have hlocks := B.notSynchronized
  have hl := lv_entry ([.long (lN (a)), .int (zI (la)), .long (lN (b))]) (n := 5) (Nat.le_of_ble_eq_true rfl)
  rw [lg_entry_eq]
  generalize (lg_sl ([.long (lN (a)), .int (zI (la)), .long (lN (b))]) ++ List.replicate (5 - (lg_sl ([.long (lN (a)), .int (zI (la)), .long (lN (b))])).length) Slot.unset).toArray = ls at hl ⊢
  have hl : lv_has ls 5 [(0, .long (lN (a))), (2, .int (zI (la))), (3, .long (lN (b)))] := hl
  refine lv_lload_n hx hb dX3_joined_0 rfl (lv_at hl 0 rfl) ?_
  refine lv_lload_n hx hb dX3_joined_1 rfl (lv_at hl 2 rfl) ?_
  refine lv_iload_n hx hb dX3_joined_2 rfl (lv_at hl 1 rfl) ?_
  refine n_lshl hx hb (q := la) (by omega) dX3_joined_3 ?_
  refine n_lor hx hb dX3_joined_4 ?_
  exact W.lret (v := (lN ((a) ||| ((b) <<< (la))))) hx hb hr (fun tq ht hW => ⟨_, rfl, rfl, ht⟩) (fun q h => by cases h) dX3_joined_5

-- woven(a, b, n)
set_option maxHeartbeats 4000000 in
set_option maxRecDepth 100000 in
theorem c_X3_woven (l : Launch) (a b n : Nat) (gn : n ≤ 16) (ga : a < 4294967296) (gb : b < 4294967296) : Met l yX3_woven wsX3_woven ({ frames := 0, cells := 0, slots := 0, locals := 0 }) (va_Pc [.long (lN (a)), .long (lN (b)), .int (zI (n))] (fun _ => True)) (vp_Sl (fun r => r = lN (wv a b n))) 0 0 (fun _ => False) := by
  refine Met.ofW (cc := cX3_woven) (maxL := 8) (ret := (some .long)) (by decide) rfl ?_
  intro p e s m args below meth c s₁ B hml hv
  obtain ⟨rfl, -⟩ := hv
  have hx := B.exec
  have hb := B.bytes
  have hr := B.returns
  have hts := atoms_spec (ws := wsX3_woven) B.pre
  have hown : s.vm.findClass RX3 = some m.cls := findClass_of_methodNamed B.named
  have hlocks := B.notSynchronized
  have hl := lv_entry ([.long (lN (a)), .long (lN (b)), .int (zI (n))]) (n := 8) (Nat.le_of_ble_eq_true rfl)
  rw [lg_entry_eq]
  generalize (lg_sl ([.long (lN (a)), .long (lN (b)), .int (zI (n))]) ++ List.replicate (8 - (lg_sl ([.long (lN (a)), .long (lN (b)), .int (zI (n))])).length) Slot.unset).toArray = ls at hl ⊢
  have hl : lv_has ls 8 [(0, .long (lN (a))), (2, .long (lN (b))), (4, .int (zI (n)))] := hl
  refine lv_lconst (v := lN 0) hx hb dX3_woven_0 rfl ?_
  refine n_re (e2 := wv a b 0) (rfl) ?_
  refine lv_lstore (lv' := [(5, .long (lN (wv a b 0))), (0, .long (lN (a))), (2, .long (lN (b))), (4, .int (zI (n)))]) hx hb dX3_woven_1 hl (by decide) rfl (fun ls hl => ?_)
  refine lv_iconst (v := zI 0) hx hb dX3_woven_3 rfl ?_
  refine z_re (e2 := ((0 : Nat) : Int)) (rfl) ?_
  refine lv_istore (lv' := [(7, .int (zI (((0 : Nat) : Int)))), (5, .long (lN (wv a b 0))), (0, .long (lN (a))), (2, .long (lN (b))), (4, .int (zI (n)))]) hx hb dX3_woven_4 hl (by decide) rfl (fun ls hl => ?_)
  have lp6 : ∀ (NN : Nat) (i : Nat) (q2 : i ≤ n), n - i < NN → ∀ (ls : Array Slot), lv_has ls 8 [(0, .long (lN (a))), (2, .long (lN (b))), (4, .int (zI (n))), (5, .long (lN (wv a b i))), (7, .int (zI (i)))] → W p l e (headSpec wsX3_woven ({ frames := 0, cells := 0, slots := 0, locals := 0 })).room s m ([.long (lN (a)), .long (lN (b)), .int (zI (n))] : List Value).toArray below meth c s.heap [] 0 0 (MQ below (vp_Sl (fun r => r = lN (wv a b n))) ([.long (lN (a)), .long (lN (b)), .int (zI (n))] : List Value).toArray s 0 0 (fun _ => False)) (F0 m 6 ls []) := by
    intro NN
    induction NN with
    | zero =>
      intro i q2 hmu
      exact absurd hmu (Nat.not_lt_zero _)
    | succ NN ih6 =>
      intro i q2 hmu ls hl
      refine lv_iload hx hb dX3_woven_6 (lv_at hl 4 rfl) ?_
      refine lv_iload hx hb dX3_woven_8 (lv_at hl 2 rfl) ?_
      refine z_icmp_ge (tgt := 49) hx hb dX3_woven_10 (by decide) (by omega) (by omega) (fun c10 => ?_) (fun c10 => ?_)
      · refine lv_lload hx hb dX3_woven_49 (lv_at hl 3 rfl) ?_
        exact W.lret (v := (lN (wv a b i))) hx hb hr (fun tq ht hW => ⟨_, rfl, by rw [show i = n by omega], ht⟩) (fun q h => by cases h) dX3_woven_51
      · refine lv_lload hx hb dX3_woven_13 (lv_at hl 3 rfl) ?_
        refine lv_lload_n hx hb dX3_woven_15 rfl (lv_at hl 0 rfl) ?_
        refine lv_iload hx hb dX3_woven_16 (lv_at hl 4 rfl) ?_
        refine n_lushr hx hb (q := i) (by omega) (by omega) dX3_woven_18 ?_
        refine lv_lconst (v := lN 1) hx hb dX3_woven_19 rfl ?_
        refine n_land hx hb dX3_woven_20 ?_
        refine n_re (e2 := (a.testBit i).toNat) (tbN a i) ?_
        refine lv_iconst (v := zI 2) hx hb dX3_woven_21 rfl ?_
        refine lv_iload hx hb dX3_woven_22 (lv_at hl 4 rfl) ?_
        refine z_imul hx hb dX3_woven_24 ?_
        refine z_re (e2 := ((2 * i : Nat) : Int)) (by omega) ?_
        refine n_lshl hx hb (q := 2 * i) (by omega) dX3_woven_25 ?_
        refine lv_lload_n hx hb dX3_woven_26 rfl (lv_at hl 1 rfl) ?_
        refine lv_iload hx hb dX3_woven_27 (lv_at hl 4 rfl) ?_
        refine n_lushr hx hb (q := i) (by omega) (by omega) dX3_woven_29 ?_
        refine lv_lconst (v := lN 1) hx hb dX3_woven_30 rfl ?_
        refine n_land hx hb dX3_woven_31 ?_
        refine n_re (e2 := (b.testBit i).toNat) (tbN b i) ?_
        refine lv_iconst (v := zI 2) hx hb dX3_woven_32 rfl ?_
        refine lv_iload hx hb dX3_woven_33 (lv_at hl 4 rfl) ?_
        refine z_imul hx hb dX3_woven_35 ?_
        refine z_re (e2 := ((2 * i : Nat) : Int)) (by omega) ?_
        refine lv_iconst (v := zI 1) hx hb dX3_woven_36 rfl ?_
        refine z_iadd hx hb dX3_woven_37 ?_
        refine z_re (e2 := ((2 * i + 1 : Nat) : Int)) (by omega) ?_
        refine n_lshl hx hb (q := 2 * i + 1) (by omega) dX3_woven_38 ?_
        refine n_lor hx hb dX3_woven_39 ?_
        refine n_lor hx hb dX3_woven_40 ?_
        refine n_re (e2 := wv a b (i + 1)) (rfl) ?_
        refine lv_lstore (lv' := [(5, .long (lN (wv a b (i + 1)))), (0, .long (lN (a))), (2, .long (lN (b))), (4, .int (zI (n))), (7, .int (zI (i)))]) hx hb dX3_woven_41 hl (by decide) rfl (fun ls hl => ?_)
        refine lv_iinc (v := zI (((i + 1 : Nat) : Int))) (lv' := [(7, .int (zI (((i + 1 : Nat) : Int)))), (5, .long (lN (wv a b (i + 1)))), (0, .long (lN (a))), (2, .long (lN (b))), (4, .int (zI (n)))]) hx hb dX3_woven_43 hl (k := 4) rfl (zI_incr (by omega)) (by decide) rfl (fun ls hl => ?_)
        refine lv_goto (tgt := 6) hx hb dX3_woven_46 (by decide) ?_
        exact ih6 (i + 1) (by omega) (by omega) _ (lv_sub hl [2, 3, 4, 1, 0] rfl)
  exact lp6 _ (0) (by omega) (Nat.lt_succ_self _) _ (lv_sub hl [2, 3, 4, 1, 0] rfl)

-- product(a, la, b, lb)
set_option maxHeartbeats 4000000 in
set_option maxRecDepth 100000 in
theorem c_X3_product (l : Launch) (a la b lb : Nat) (gl : la * lb ≤ 32) (g1 : 1 ≤ lb) (ga : a < 4294967296) (gb : b < 2 ^ lb) (g2 : la ≤ 32) (g3 : lb ≤ 32) : Met l yX3_product wsX3_product ({ frames := 2, cells := 0, slots := 0, locals := 42 }) (va_Pc [.long (lN (a)), .int (zI (la)), .long (lN (b)), .int (zI (lb))] (fun _ => True)) (vp_Sl (fun r => r = lN (pd a b lb (la * lb)))) 0 0 (fun _ => False) := by
  refine Met.ofW (cc := cX3_product) (maxL := 11) (ret := (some .long)) (by decide) rfl ?_
  intro p e s m args below meth c s₁ B hml hv
  obtain ⟨rfl, -⟩ := hv
  have hx := B.exec
  have hb := B.bytes
  have hr := B.returns
  have hts := atoms_spec (ws := wsX3_product) B.pre
  have hown : s.vm.findClass RX3 = some m.cls := findClass_of_methodNamed B.named
  have hlocks := B.notSynchronized
  have hl := lv_entry ([.long (lN (a)), .int (zI (la)), .long (lN (b)), .int (zI (lb))]) (n := 11) (Nat.le_of_ble_eq_true rfl)
  rw [lg_entry_eq]
  generalize (lg_sl ([.long (lN (a)), .int (zI (la)), .long (lN (b)), .int (zI (lb))]) ++ List.replicate (11 - (lg_sl ([.long (lN (a)), .int (zI (la)), .long (lN (b)), .int (zI (lb))])).length) Slot.unset).toArray = ls at hl ⊢
  have hl : lv_has ls 11 [(0, .long (lN (a))), (2, .int (zI (la))), (3, .long (lN (b))), (5, .int (zI (lb)))] := hl
  refine lv_lconst (v := lN 0) hx hb dX3_product_0 rfl ?_
  refine n_re (e2 := pd a b lb (0 * lb)) (by rw [Nat.zero_mul]; rfl) ?_
  refine lv_lstore (lv' := [(6, .long (lN (pd a b lb (0 * lb)))), (0, .long (lN (a))), (2, .int (zI (la))), (3, .long (lN (b))), (5, .int (zI (lb)))]) hx hb dX3_product_1 hl (by decide) rfl (fun ls hl => ?_)
  refine lv_iconst (v := zI 0) hx hb dX3_product_3 rfl ?_
  refine z_re (e2 := ((0 : Nat) : Int)) (rfl) ?_
  refine lv_istore (lv' := [(8, .int (zI (((0 : Nat) : Int)))), (6, .long (lN (pd a b lb (0 * lb)))), (0, .long (lN (a))), (2, .int (zI (la))), (3, .long (lN (b))), (5, .int (zI (lb)))]) hx hb dX3_product_4 hl (by decide) rfl (fun ls hl => ?_)
  have lp6 : ∀ (NN : Nat) (i : Nat) (q2 : i ≤ la), la - i < NN → ∀ (ls : Array Slot), lv_has ls 11 [(0, .long (lN (a))), (2, .int (zI (la))), (3, .long (lN (b))), (5, .int (zI (lb))), (6, .long (lN (pd a b lb (i * lb)))), (8, .int (zI (i)))] → W p l e (headSpec wsX3_product ({ frames := 2, cells := 0, slots := 0, locals := 42 })).room s m ([.long (lN (a)), .int (zI (la)), .long (lN (b)), .int (zI (lb))] : List Value).toArray below meth c s.heap [] 0 0 (MQ below (vp_Sl (fun r => r = lN (pd a b lb (la * lb)))) ([.long (lN (a)), .int (zI (la)), .long (lN (b)), .int (zI (lb))] : List Value).toArray s 0 0 (fun _ => False)) (F0 m 6 ls []) := by
    intro NN
    induction NN with
    | zero =>
      intro i q2 hmu
      exact absurd hmu (Nat.not_lt_zero _)
    | succ NN ih6 =>
      intro i q2 hmu ls hl
      have b1 : i * lb ≤ la * lb := Nat.mul_le_mul_right lb q2
      have b2 := pm_or a i
      refine lv_iload hx hb dX3_product_6 (lv_at hl 5 rfl) ?_
      refine lv_iload_n hx hb dX3_product_8 rfl (lv_at hl 1 rfl) ?_
      refine z_icmp_ge (tgt := 53) hx hb dX3_product_9 (by decide) (by omega) (by omega) (fun c9 => ?_) (fun c9 => ?_)
      · refine lv_lload hx hb dX3_product_53 (lv_at hl 4 rfl) ?_
        exact W.lret (v := (lN (pd a b lb (i * lb)))) hx hb hr (fun tq ht hW => ⟨_, rfl, by rw [show i = la by omega], ht⟩) (fun q h => by cases h) dX3_product_55
      · refine lv_lload_n hx hb dX3_product_12 rfl (lv_at hl 0 rfl) ?_
        refine lv_iload hx hb dX3_product_13 (lv_at hl 5 rfl) ?_
        refine vp_callSi (va_runS (As := [.long (lN (a)), .int (zI (i))]) (rest := []) ⟨hx, hb, hml, hown, hts⟩ (c_X3_sign l a i ga (by omega)) (va_cwS 2 hts gX3_product_X3_sign rfl rfl rfl (by decide +kernel) ⟨Nat.le_of_ble_eq_true rfl, Nat.le_of_ble_eq_true rfl⟩) ⟨fun a U g mk q => q, fun U hU hW => ⟨rfl, trivial⟩⟩ rfl rfl hl.1 rfl (lv_room (Nat.le_of_ble_eq_true rfl)) dX3_product_15 ⟨Nat.le_of_ble_eq_true rfl, Nat.le_of_ble_eq_true rfl⟩).run (fun r hr15 => ?_)
        obtain rfl := hr15
        refine lv_iconst (v := zI 1) hx hb dX3_product_18 rfl ?_
        refine z_icmp_ne (tgt := 26) hx hb dX3_product_19 (by decide) (by omega) (by omega) (fun c19 => ?_) (fun c19 => ?_)
        · refine lv_lload_n hx hb dX3_product_26 rfl (lv_at hl 2 rfl) ?_
          refine lv_iload hx hb dX3_product_27 (lv_at hl 3 rfl) ?_
          refine vp_callSl (va_runS (As := [.long (lN (b)), .int (zI (lb))]) (rest := []) ⟨hx, hb, hml, hown, hts⟩ (c_X3_opposite l b lb g3) (va_cwS 2 hts gX3_product_X3_opposite rfl rfl rfl (by decide +kernel) ⟨Nat.le_of_ble_eq_true rfl, Nat.le_of_ble_eq_true rfl⟩) ⟨fun a U g mk q => q, fun U hU hW => ⟨rfl, trivial⟩⟩ rfl rfl hl.1 rfl (lv_room (Nat.le_of_ble_eq_true rfl)) dX3_product_29 ⟨Nat.le_of_ble_eq_true rfl, Nat.le_of_ble_eq_true rfl⟩).run (fun r hr29 => ?_)
          obtain rfl := hr29
          refine n_re (e2 := if a.testBit i then b ^^^ (2 ^ lb - 1) else b) (by rw [pm_n c19]; rfl) ?_
          refine lv_lstore (lv' := [(9, .long (lN (if a.testBit i then b ^^^ (2 ^ lb - 1) else b))), (0, .long (lN (a))), (2, .int (zI (la))), (3, .long (lN (b))), (5, .int (zI (lb))), (6, .long (lN (pd a b lb (i * lb)))), (8, .int (zI (i)))]) hx hb dX3_product_32 hl (by decide) rfl (fun ls hl => ?_)
          refine lv_lload hx hb dX3_product_34 (lv_at hl 5 rfl) ?_
          refine lv_lload hx hb dX3_product_36 (lv_at hl 0 rfl) ?_
          refine lv_iload hx hb dX3_product_38 (lv_at hl 6 rfl) ?_
          refine lv_iload hx hb dX3_product_40 (lv_at hl 4 rfl) ?_
          refine z_imul hx hb dX3_product_42 ?_
          refine z_re (e2 := ((i * lb : Nat) : Int)) (by rw [Int.natCast_mul]) ?_
          refine n_lshl hx hb (q := i * lb) (by omega) dX3_product_43 ?_
          refine n_lor hx hb dX3_product_44 ?_
          refine n_re (e2 := pd a b lb ((i + 1) * lb)) (pd_s a i gb g1) ?_
          refine lv_lstore (lv' := [(6, .long (lN (pd a b lb ((i + 1) * lb)))), (9, .long (lN (if a.testBit i then b ^^^ (2 ^ lb - 1) else b))), (0, .long (lN (a))), (2, .int (zI (la))), (3, .long (lN (b))), (5, .int (zI (lb))), (8, .int (zI (i)))]) hx hb dX3_product_45 hl (by decide) rfl (fun ls hl => ?_)
          refine lv_iinc (v := zI (((i + 1 : Nat) : Int))) (lv' := [(8, .int (zI (((i + 1 : Nat) : Int)))), (6, .long (lN (pd a b lb ((i + 1) * lb)))), (9, .long (lN (if a.testBit i then b ^^^ (2 ^ lb - 1) else b))), (0, .long (lN (a))), (2, .int (zI (la))), (3, .long (lN (b))), (5, .int (zI (lb)))]) hx hb dX3_product_47 hl (k := 6) rfl (zI_incr (by omega)) (by decide) rfl (fun ls hl => ?_)
          refine lv_goto (tgt := 6) hx hb dX3_product_50 (by decide) ?_
          exact ih6 (i + 1) (by omega) (by omega) _ (lv_sub hl [3, 4, 5, 6, 1, 0] rfl)
        · refine lv_lload_n hx hb dX3_product_22 rfl (lv_at hl 2 rfl) ?_
          refine n_re (e2 := if a.testBit i then b ^^^ (2 ^ lb - 1) else b) (by rw [pm_p c19]; rfl) ?_
          refine lv_goto (tgt := 32) hx hb dX3_product_23 (by decide) ?_
          refine lv_lstore (lv' := [(9, .long (lN (if a.testBit i then b ^^^ (2 ^ lb - 1) else b))), (0, .long (lN (a))), (2, .int (zI (la))), (3, .long (lN (b))), (5, .int (zI (lb))), (6, .long (lN (pd a b lb (i * lb)))), (8, .int (zI (i)))]) hx hb dX3_product_32 hl (by decide) rfl (fun ls hl => ?_)
          refine lv_lload hx hb dX3_product_34 (lv_at hl 5 rfl) ?_
          refine lv_lload hx hb dX3_product_36 (lv_at hl 0 rfl) ?_
          refine lv_iload hx hb dX3_product_38 (lv_at hl 6 rfl) ?_
          refine lv_iload hx hb dX3_product_40 (lv_at hl 4 rfl) ?_
          refine z_imul hx hb dX3_product_42 ?_
          refine z_re (e2 := ((i * lb : Nat) : Int)) (by rw [Int.natCast_mul]) ?_
          refine n_lshl hx hb (q := i * lb) (by omega) dX3_product_43 ?_
          refine n_lor hx hb dX3_product_44 ?_
          refine n_re (e2 := pd a b lb ((i + 1) * lb)) (pd_s a i gb g1) ?_
          refine lv_lstore (lv' := [(6, .long (lN (pd a b lb ((i + 1) * lb)))), (9, .long (lN (if a.testBit i then b ^^^ (2 ^ lb - 1) else b))), (0, .long (lN (a))), (2, .int (zI (la))), (3, .long (lN (b))), (5, .int (zI (lb))), (8, .int (zI (i)))]) hx hb dX3_product_45 hl (by decide) rfl (fun ls hl => ?_)
          refine lv_iinc (v := zI (((i + 1 : Nat) : Int))) (lv' := [(8, .int (zI (((i + 1 : Nat) : Int)))), (6, .long (lN (pd a b lb ((i + 1) * lb)))), (9, .long (lN (if a.testBit i then b ^^^ (2 ^ lb - 1) else b))), (0, .long (lN (a))), (2, .int (zI (la))), (3, .long (lN (b))), (5, .int (zI (lb)))]) hx hb dX3_product_47 hl (k := 6) rfl (zI_incr (by omega)) (by decide) rfl (fun ls hl => ?_)
          refine lv_goto (tgt := 6) hx hb dX3_product_50 (by decide) ?_
          exact ih6 (i + 1) (by omega) (by omega) _ (lv_sub hl [3, 4, 5, 6, 1, 0] rfl)
  exact lp6 _ (0) (by omega) (Nat.lt_succ_self _) _ (lv_sub hl [2, 3, 4, 5, 1, 0] rfl)
