/-! the best rows -/
def qn (n : Nat) : Nat := 2 ^ n / alk n
theorem n14 {n : Nat} (h : 1 ≤ n ∧ n ≤ 14) : (alk n = 2 ∨ alk n = 4) ∧ 1 ≤ 2 ^ n ∧ 2 ^ n ≤ 16384 ∧ qn n ≤ 4096 ∧ qn n ≤ 2 ^ n ∧ 1 ≤ qn n := by
  have z : ∀ n, n < 15 → 1 ≤ n → (alk n = 2 ∨ alk n = 4) ∧ 1 ≤ 2 ^ n ∧ 2 ^ n ≤ 16384 ∧ qn n ≤ 4096 ∧ qn n ≤ 2 ^ n ∧ 1 ≤ qn n := by decide +kernel
  exact z n (by omega) h.1
theorem enL_bd (n x : Nat) : ∀ m, 0 ≤ enL n x m ∧ enL n x m ≤ (m : Int) * ((n : Int) * (n : Int))
  | 0 => ⟨Int.le_refl 0, by show (0 : Int) ≤ ((0 : Nat) : Int) * _; simp⟩
  | m + 1 => by
    have h := enL_bd n x m
    have g := oS_bd n x m
    have g1 : 0 ≤ oS n x m * oS n x m := by
      rcases Int.le_total 0 (oS n x m) with z | z
      · exact Int.mul_nonneg z z
      · exact Int.mul_nonneg_of_nonpos_of_nonpos z z
    have g2 : oS n x m * oS n x m ≤ (n : Int) * (n : Int) := by
      rcases Int.le_total 0 (oS n x m) with z | z
      · exact Int.mul_le_mul g.2 g.2 z (by omega)
      · have := Int.mul_le_mul (show - oS n x m ≤ (n : Int) by omega) (show - oS n x m ≤ (n : Int) by omega) (by omega) (by omega)
        rw [Int.neg_mul_neg] at this
        exact this
    have e : ((m + 1 : Nat) : Int) * ((n : Int) * (n : Int)) = (m : Int) * ((n : Int) * (n : Int)) + (n : Int) * (n : Int) := by
      rw [Int.natCast_add, Int.add_mul]
      simp
    rw [e]
    show 0 ≤ (if m = 0 then 0 else enL n x m + oS n x m * oS n x m) ∧ (if m = 0 then 0 else enL n x m + oS n x m * oS n x m) ≤ _
    split <;> omega
theorem fm_bd {n : Nat} (hn : n ≤ 14) (way : Int) (x : Nat) : 0 ≤ fm n way x ∧ fm n way x < 1000000 := by
  unfold fm
  split
  · have := pkL_bd n x n
    omega
  · have h := enL_bd n x n
    have h2 : (n : Int) * ((n : Int) * (n : Int)) ≤ 14 * (14 * 14) := Int.mul_le_mul (by omega) (Int.mul_le_mul (by omega) (by omega) (by omega) (by decide)) (Int.mul_nonneg (by omega) (by omega)) (by decide)
    omega
abbrev bv (n : Nat) (way : Int) : BT := bs (fm n way) (gm n) 1 (2 ^ n)
def bw (z : BT) (what : Int) : Int := if what = 0 then z.1 else if what = 1 then z.2.1 else if what = 2 then z.2.2.1 else z.2.2.2
def sp_best (n way what : Int) : Int := if 1 ≤ n ∧ n ≤ 14 ∧ 0 ≤ way ∧ way ≤ 1 ∧ 0 ≤ what ∧ what ≤ 3 then bw (bv n.toNat way) what else -1
-- BestRows(n, way)
set_option maxHeartbeats 4000000 in
set_option maxRecDepth 100000 in
theorem c_X0_init (l : Launch) (D : va_G) (t : Nat → ClassId) (sz : Nat) (q : Nat) (n : Nat) (way : Int) (gn : 1 ≤ n ∧ n ≤ 14) (gw : way = 0 ∨ way = 1)  : Met l yX0_init wsX0_init ({ frames := 4, cells := 0, slots := 0, locals := 92 }) (va_Pc [.ref q, .int (zI (n)), .int (zI (way))] (fun U => U.heap.size = sz ∧ va_P D vwCl ([(q, .inr (2, [.int (zI (0)), .int (zI (0)), .int (zI (0)), .int (zI (0))]))]) U.heap ∧ va_K D vwCl (TY t) U ∧ va_D (fun _ => True) ([(q, .inr (2, [.int (zI (0)), .int (zI (0)), .int (zI (0)), .int (zI (0))]))]))) (va_Qv (fun (u : Unit) => True) (fun (u : Unit) t1 => va_P D vwCl ([(q, .inr (2, [.int (zI ((bv n way).1)), .int (zI ((((bv n way).2.1 : Nat) : Int))), .int (zI ((((bv n way).2.2.1 : Nat) : Int))), .int (zI ((((bv n way).2.2.2 : Nat) : Int)))]))]) t1.heap ∧ va_K D vwCl (TY t) t1 ∧ va_D (va_A ([(q, .inr (2, [.int (zI (0)), .int (zI (0)), .int (zI (0)), .int (zI (0))]))]) sz) ([(q, .inr (2, [.int (zI ((bv n way).1)), .int (zI ((((bv n way).2.1 : Nat) : Int))), .int (zI ((((bv n way).2.2.1 : Nat) : Int))), .int (zI ((((bv n way).2.2.2 : Nat) : Int)))]))])) (va_A ([(q, .inr (2, [.int (zI (0)), .int (zI (0)), .int (zI (0)), .int (zI (0))]))]) sz)) 0 0 (va_A ([(q, .inr (2, [.int (zI (0)), .int (zI (0)), .int (zI (0)), .int (zI (0))]))]) sz) := by
  refine Met.ofW (cc := cX0_init) (maxL := 7) (ret := none) (by decide) rfl ?_
  intro p e s m args below meth c s₁ B hml hv
  obtain ⟨rfl, hsz, hP, hK, hD0⟩ := hv
  have hx := B.exec
  have hb := B.bytes
  have hr := B.returns
  have hts := atoms_spec (ws := wsX0_init) B.pre
  have hown : s.vm.findClass RX0 = some m.cls := findClass_of_methodNamed B.named
  have hlocks := B.notSynchronized
  have hin : meth.name = "<init>" := (name_of_methodNamed B.named B.method).1
  subst hsz
  have hD := hD0.self (sz := s.heap.size)
  generalize hAe : va_A ([(q, .inr (2, [.int (zI (0)), .int (zI (0)), .int (zI (0)), .int (zI (0))]))]) s.heap.size = AA at hD ⊢
  have hA : ∀ q : Nat, s.heap.size ≤ q → AA q := fun q h => by rw [← hAe]; exact Or.inr h
  have hS : va_S AA s.heap s.heap [] := va_S.rf
  have hP : va_P D vwCl ([(q, .inr (2, [.int (zI (0)), .int (zI (0)), .int (zI (0)), .int (zI (0))]))]) s.heap := hP
  have hl := lv_entry ([.ref q, .int (zI (n)), .int (zI (way))]) (n := 7) (Nat.le_of_ble_eq_true rfl)
  rw [lg_entry_eq]
  generalize (lg_sl ([.ref q, .int (zI (n)), .int (zI (way))]) ++ List.replicate (7 - (lg_sl ([.ref q, .int (zI (n)), .int (zI (way))])).length) Slot.unset).toArray = ls at hl ⊢
  have hl : lv_has ls 7 [(0, .ref q), (1, .int (zI (n))), (2, .int (zI (way)))] := hl
  have iX0 : ∀ w ∈ u_ws RX0 TX0 4, w ∈ wsX0_init := by decide +kernel
  have b0 := n14 gn
  refine lv_aload_n hx hb dX0_init_0 rfl (lv_at hl 0 rfl) ?_
  refine W.objInit hx hb hown (hts (.methodLink RX0 1 objectInit) (by decide +kernel)) (hts (.instanceMethod objectInit) (by decide +kernel)) (hts (.code objectInit ⟨#[0xb1]⟩ 1 none) (by decide +kernel)) rfl (by rw [hml]; exact hl.1) rfl dX0_init_1 (Nat.le_of_ble_eq_true rfl) (Nat.le_of_ble_eq_true rfl) ?_
  refine W.eq (g2 := F0 m 4 ls []) rfl ?_
  refine lv_aload_n hx hb dX0_init_4 rfl (lv_at hl 0 rfl) ?_
  refine lv_ldc (v := zI 1000000) hx hb hown (hts (.constant RX0 9 (zI 1000000)) (by decide +kernel)) dX0_init_5 ?_
  refine z_re (e2 := 1000000) (rfl) ?_
  refine va_put (D := D) (ci := 2) (v := .int (zI (1000000))) (ty := .int) (C := RX0) (T := TX0) (N := 4) hx hb hts iX0 tyX0 tyX0_ok nmX0 hown hK hP hD hS 0 rfl rfl 0 (by decide) (hts (.fieldLink RX0 10 "CancelRows$BestRows" "value" "I") (by decide +kernel)) (fun _ h9 => h9) rfl (by decide +kernel) rfl rfl (Nat.le_of_ble_eq_true rfl) dX0_init_7 (fun H locs hP hD hS => ?_)
  have hP : va_P D vwCl [(q, .inr (2, [.int (zI (1000000)), .int (zI (0)), .int (zI (0)), .int (zI (0))]))] H := hP
  have hD : va_D AA [(q, .inr (2, [.int (zI (1000000)), .int (zI (0)), .int (zI (0)), .int (zI (0))]))] := hD
  refine lv_iload_n hx hb dX0_init_10 rfl (lv_at hl 1 rfl) ?_
  refine lv_iconst (v := zI 1) hx hb dX0_init_11 rfl ?_
  have lp20 : ∀ (H : Heap) (locs : List Loc), va_P D vwCl [(q, .inr (2, [.int (zI (1000000)), .int (zI (0)), .int (zI (0)), .int (zI (0))]))] H → va_D AA [(q, .inr (2, [.int (zI (1000000)), .int (zI (0)), .int (zI (0)), .int (zI (0))]))] → va_S AA s.heap H locs → ∀ (ls : Array Slot), lv_has ls 7 [(0, .ref q), (1, .int (zI (n))), (2, .int (zI (way)))] → W p l e (headSpec wsX0_init ({ frames := 4, cells := 0, slots := 0, locals := 92 })).room s m ([.ref q, .int (zI (n)), .int (zI (way))] : List Value).toArray below meth c H locs 0 0 (MQ below (va_Qv (fun (u : Unit) => True) (fun (u : Unit) t1 => va_P D vwCl ([(q, .inr (2, [.int (zI ((bv n way).1)), .int (zI ((((bv n way).2.1 : Nat) : Int))), .int (zI ((((bv n way).2.2.1 : Nat) : Int))), .int (zI ((((bv n way).2.2.2 : Nat) : Int)))]))]) t1.heap ∧ va_K D vwCl (TY t) t1 ∧ va_D (AA) ([(q, .inr (2, [.int (zI ((bv n way).1)), .int (zI ((((bv n way).2.1 : Nat) : Int))), .int (zI ((((bv n way).2.2.1 : Nat) : Int))), .int (zI ((((bv n way).2.2.2 : Nat) : Int)))]))])) (AA)) ([.ref q, .int (zI (n)), .int (zI (way))] : List Value).toArray s 0 0 (AA)) (F0 m 20 ls [.int (zI (((alk n : Nat) : Int)))]) := by
    intro   H locs hP hD hS ls hl
    refine lv_istore_n (lv' := [(3, .int (zI (((alk n : Nat) : Int)))), (0, .ref q), (1, .int (zI (n))), (2, .int (zI (way)))]) hx hb dX0_init_20 rfl hl (by decide) rfl (fun ls hl => ?_)
    refine lv_iconst (v := zI 1) hx hb dX0_init_21 rfl ?_
    refine lv_iload_n hx hb dX0_init_22 rfl (lv_at hl 2 rfl) ?_
    refine z_ishl hx hb (q := n) (by omega) dX0_init_23 ?_
    refine z_re (e2 := ((2 ^ n : Nat) : Int)) (by rw [Int.one_mul]; exact (Int.natCast_pow 2 n).symm) ?_
    refine lv_iload_n hx hb dX0_init_24 rfl (lv_at hl 0 rfl) ?_
    refine z_idiv hx hb (by omega) (by omega) dX0_init_25 ?_
    refine z_re (e2 := ((qn n : Nat) : Int)) ((Int.natCast_ediv (2 ^ n) (alk n)).symm) ?_
    refine lv_istore (lv' := [(4, .int (zI (((qn n : Nat) : Int)))), (3, .int (zI (((alk n : Nat) : Int)))), (0, .ref q), (1, .int (zI (n))), (2, .int (zI (way)))]) hx hb dX0_init_26 hl (by decide) rfl (fun ls hl => ?_)
    refine lv_iconst (v := zI 0) hx hb dX0_init_28 rfl ?_
    refine z_re (e2 := ((0 : Nat) : Int)) (rfl) ?_
    refine lv_istore (lv' := [(5, .int (zI (((0 : Nat) : Int)))), (4, .int (zI (((qn n : Nat) : Int)))), (3, .int (zI (((alk n : Nat) : Int)))), (0, .ref q), (1, .int (zI (n))), (2, .int (zI (way)))]) hx hb dX0_init_29 hl (by decide) rfl (fun ls hl => ?_)
    have lp31 : ∀ (NN : Nat) (xx : Nat) (v : Int) (l0 : Nat) (mm : Nat) (kd : Nat) (q1 : xx ≤ qn n) (q2 : bs (fm n way) (gm n) (alk n) xx = (v, l0, mm, kd)) (q3 : 0 ≤ v ∧ v ≤ 1000000) (q4 : l0 ≤ xx ∧ mm ≤ 4 * xx ∧ kd ≤ xx), qn n - xx < NN → ∀ (H : Heap) (locs : List Loc), va_P D vwCl [(q, .inr (2, [.int (zI (v)), .int (zI (((l0 : Nat) : Int))), .int (zI (((mm : Nat) : Int))), .int (zI (((kd : Nat) : Int)))]))] H → va_D AA [(q, .inr (2, [.int (zI (v)), .int (zI (((l0 : Nat) : Int))), .int (zI (((mm : Nat) : Int))), .int (zI (((kd : Nat) : Int)))]))] → va_S AA s.heap H locs → ∀ (ls : Array Slot), lv_has ls 7 [(0, .ref q), (1, .int (zI (n))), (2, .int (zI (way))), (3, .int (zI (((alk n : Nat) : Int)))), (4, .int (zI (((qn n : Nat) : Int)))), (5, .int (zI (((xx : Nat) : Int))))] → W p l e (headSpec wsX0_init ({ frames := 4, cells := 0, slots := 0, locals := 92 })).room s m ([.ref q, .int (zI (n)), .int (zI (way))] : List Value).toArray below meth c H locs 0 0 (MQ below (va_Qv (fun (u : Unit) => True) (fun (u : Unit) t1 => va_P D vwCl ([(q, .inr (2, [.int (zI ((bv n way).1)), .int (zI ((((bv n way).2.1 : Nat) : Int))), .int (zI ((((bv n way).2.2.1 : Nat) : Int))), .int (zI ((((bv n way).2.2.2 : Nat) : Int)))]))]) t1.heap ∧ va_K D vwCl (TY t) t1 ∧ va_D (AA) ([(q, .inr (2, [.int (zI ((bv n way).1)), .int (zI ((((bv n way).2.1 : Nat) : Int))), .int (zI ((((bv n way).2.2.1 : Nat) : Int))), .int (zI ((((bv n way).2.2.2 : Nat) : Int)))]))])) (AA)) ([.ref q, .int (zI (n)), .int (zI (way))] : List Value).toArray s 0 0 (AA)) (F0 m 31 ls []) := by
      intro NN
      induction NN with
      | zero =>
        intro xx v l0 mm kd q1 q2 q3 q4 hmu
        exact absurd hmu (Nat.not_lt_zero _)
      | succ NN ih31 =>
        intro xx v l0 mm kd q1 q2 q3 q4 hmu H locs hP hD hS ls hl
        have b1 := fm_bd gn.2 way xx
        refine lv_iload hx hb dX0_init_31 (lv_at hl 5 rfl) ?_
        refine lv_iload hx hb dX0_init_33 (lv_at hl 4 rfl) ?_
        refine z_icmp_ge (tgt := 145) hx hb dX0_init_35 (by decide) (by omega) (by omega) (fun c35 => ?_) (fun c35 => ?_)
        · have hq : xx = qn n := by omega
          have hz := q2.symm.trans ((congrArg (bs (fm n way) (gm n) (alk n)) hq).trans (bs_best way gn.1 gn.2))
          obtain rfl : v = (bv n way).1 := congrArg (fun z : BT => z.1) hz
          obtain rfl : l0 = (bv n way).2.1 := congrArg (fun z : BT => z.2.1) hz
          obtain rfl : mm = (bv n way).2.2.1 := congrArg (fun z : BT => z.2.2.1) hz
          obtain rfl : kd = (bv n way).2.2.2 := congrArg (fun z : BT => z.2.2.2) hz
          exact W.vret hx hb hr (fun tq ht hW => ⟨⟨(), rfl, trivial, by rw [ht]; exact hP, va_K.moved hW.alike hK, hD⟩, hS.F ht⟩) hS.2.2 dX0_init_145
        · refine lv_iload_n hx hb dX0_init_38 rfl (lv_at hl 2 rfl) ?_
          refine z_if_ne (tgt := 52) hx hb dX0_init_39 (by decide) (by omega) (fun c39 => ?_) (fun c39 => ?_)
          · refine lv_iload hx hb dX0_init_52 (lv_at hl 5 rfl) ?_
            refine n_i2l (a := xx) hx hb (by omega) dX0_init_54 ?_
            refine lv_iload_n hx hb dX0_init_55 rfl (lv_at hl 1 rfl) ?_
            refine vp_callSi (va_runS (As := [.long (lN (xx)), .int (zI (n))]) (rest := []) ⟨hx, hb, hml, hown, hts⟩ (c_X3_energy l xx n (by omega) gn.1 (by omega)) (va_cwS 2 hts gX0_init_X3_energy rfl rfl rfl (by decide +kernel) ⟨Nat.le_of_ble_eq_true rfl, Nat.le_of_ble_eq_true rfl⟩) ⟨fun a U g mk q => q, fun U hU hW => ⟨rfl, trivial⟩⟩ rfl rfl hl.1 rfl (lv_room (Nat.le_of_ble_eq_true rfl)) dX0_init_56 ⟨Nat.le_of_ble_eq_true rfl, Nat.le_of_ble_eq_true rfl⟩).run (fun r hr56 => ?_)
            obtain rfl := hr56
            refine z_re (e2 := fm n way xx) (by rw [fm, if_neg c39]) ?_
            refine lv_istore (lv' := [(6, .int (zI (fm n way xx))), (0, .ref q), (1, .int (zI (n))), (2, .int (zI (way))), (3, .int (zI (((alk n : Nat) : Int)))), (4, .int (zI (((qn n : Nat) : Int)))), (5, .int (zI (((xx : Nat) : Int))))]) hx hb dX0_init_59 hl (by decide) rfl (fun ls hl => ?_)
            refine lv_iload hx hb dX0_init_61 (lv_at hl 0 rfl) ?_
            refine lv_aload_n hx hb dX0_init_63 rfl (lv_at hl 1 rfl) ?_
            refine va_get (D := D) (ci := 2) (v := .int (zI (v))) (C := RX0) (T := TX0) (N := 4) hx hb hts iX0 hown hK hP 0 rfl rfl 0 (by decide) (hts (.fieldLink RX0 10 "CancelRows$BestRows" "value" "I") (by decide +kernel)) (fun _ h9 => h9) rfl dX0_init_64 ?_
            refine z_icmp_ge (tgt := 92) hx hb dX0_init_67 (by decide) (by omega) (by omega) (fun c67 => ?_) (fun c67 => ?_)
            · refine lv_iload hx hb dX0_init_92 (lv_at hl 0 rfl) ?_
              refine lv_aload_n hx hb dX0_init_94 rfl (lv_at hl 1 rfl) ?_
              refine va_get (D := D) (ci := 2) (v := .int (zI (v))) (C := RX0) (T := TX0) (N := 4) hx hb hts iX0 hown hK hP 0 rfl rfl 0 (by decide) (hts (.fieldLink RX0 10 "CancelRows$BestRows" "value" "I") (by decide +kernel)) (fun _ h9 => h9) rfl dX0_init_95 ?_
              refine z_icmp_ne (tgt := 139) hx hb dX0_init_98 (by decide) (by omega) (by omega) (fun c98 => ?_) (fun c98 => ?_)
              · refine lv_iinc (v := zI (((xx + 1 : Nat) : Int))) (lv' := [(5, .int (zI (((xx + 1 : Nat) : Int)))), (6, .int (zI (fm n way xx))), (0, .ref q), (1, .int (zI (n))), (2, .int (zI (way))), (3, .int (zI (((alk n : Nat) : Int)))), (4, .int (zI (((qn n : Nat) : Int))))]) hx hb dX0_init_139 hl (k := 6) rfl (zI_incr (by omega)) (by decide) rfl (fun ls hl => ?_)
                refine lv_goto (tgt := 31) hx hb dX0_init_142 (by decide) ?_
                exact ih31 (xx + 1) (v) (l0) (mm) (kd) (by omega) (by rw [bs_gt (by rw [q2]; show v < _; omega)]; exact q2) (by omega) (by omega) (by omega) _ _ hP hD hS _ (lv_sub hl [2, 3, 4, 5, 6, 0] rfl)
              · refine lv_aload_n hx hb dX0_init_101 rfl (lv_at hl 1 rfl) ?_
                refine lv_dup hx hb dX0_init_102 rfl ?_
                refine va_get (D := D) (ci := 2) (v := .int (zI (((mm : Nat) : Int)))) (C := RX0) (T := TX0) (N := 4) hx hb hts iX0 hown hK hP 0 rfl rfl 2 (by decide) (hts (.fieldLink RX0 26 "CancelRows$BestRows" "many" "I") (by decide +kernel)) (fun _ h9 => h9) rfl dX0_init_103 ?_
                refine lv_iload_n hx hb dX0_init_106 rfl (lv_at hl 4 rfl) ?_
                refine z_iadd hx hb dX0_init_107 ?_
                refine z_re (e2 := ((mm + alk n : Nat) : Int)) (by omega) ?_
                refine va_put (D := D) (ci := 2) (v := .int (zI (((mm + alk n : Nat) : Int)))) (ty := .int) (C := RX0) (T := TX0) (N := 4) hx hb hts iX0 tyX0 tyX0_ok nmX0 hown hK hP hD hS 0 rfl rfl 2 (by decide) (hts (.fieldLink RX0 26 "CancelRows$BestRows" "many" "I") (by decide +kernel)) (fun _ h9 => h9) rfl (by decide +kernel) rfl rfl (Nat.le_of_ble_eq_true rfl) dX0_init_108 (fun H locs hP hD hS => ?_)
                have hP : va_P D vwCl [(q, .inr (2, [.int (zI (v)), .int (zI (((l0 : Nat) : Int))), .int (zI (((mm + alk n : Nat) : Int))), .int (zI (((kd : Nat) : Int)))]))] H := hP
                have hD : va_D AA [(q, .inr (2, [.int (zI (v)), .int (zI (((l0 : Nat) : Int))), .int (zI (((mm + alk n : Nat) : Int))), .int (zI (((kd : Nat) : Int)))]))] := hD
                refine lv_aload_n hx hb dX0_init_111 rfl (lv_at hl 1 rfl) ?_
                refine lv_dup hx hb dX0_init_112 rfl ?_
                refine va_get (D := D) (ci := 2) (v := .int (zI (((kd : Nat) : Int)))) (C := RX0) (T := TX0) (N := 4) hx hb hts iX0 hown hK hP 0 rfl rfl 3 (by decide) (hts (.fieldLink RX0 29 "CancelRows$BestRows" "kinds" "I") (by decide +kernel)) (fun _ h9 => h9) rfl dX0_init_113 ?_
                refine lv_iload hx hb dX0_init_116 (lv_at hl 6 rfl) ?_
                refine n_i2l (a := xx) hx hb (by omega) dX0_init_118 ?_
                refine lv_iload_n hx hb dX0_init_119 rfl (lv_at hl 2 rfl) ?_
                refine vp_callSl (va_runS (As := [.long (lN (xx)), .int (zI (n))]) (rest := [.int (zI (((kd : Nat) : Int))), .ref q]) ⟨hx, hb, hml, hown, hts⟩ (c_X3_leastTurned l xx n (by omega) (by omega)) (va_cwS 2 hts gX0_init_X3_leastTurned rfl rfl rfl (by decide +kernel) ⟨Nat.le_of_ble_eq_true rfl, Nat.le_of_ble_eq_true rfl⟩) ⟨fun a U g mk q => q, fun U hU hW => ⟨rfl, trivial⟩⟩ rfl rfl hl.1 rfl (lv_room (Nat.le_of_ble_eq_true rfl)) dX0_init_120 ⟨Nat.le_of_ble_eq_true rfl, Nat.le_of_ble_eq_true rfl⟩).run (fun r hr120 => ?_)
                obtain rfl := hr120
                have b2 := ltw_lt (show xx < 2 ^ n by omega) 8
                refine lv_iload hx hb dX0_init_123 (lv_at hl 6 rfl) ?_
                refine n_i2l (a := xx) hx hb (by omega) dX0_init_125 ?_
                refine z_lcmp_ne (a := ((ltw (n) (xx) 8 : Nat) : Int)) (b := ((xx : Nat) : Int)) (tgt := 134) hx hb dX0_init_126 dX0_init_127 (by decide) (lN_toI (n := ltw (n) (xx) 8) (by omega)) (lN_toI (n := xx) (by omega)) (fun c126 => ?_) (fun c126 => ?_)
                · refine lv_iconst (v := zI 0) hx hb dX0_init_134 rfl ?_
                  refine z_re (e2 := ((0 : Nat) : Int)) (rfl) ?_
                  refine z_iadd hx hb dX0_init_135 ?_
                  refine z_re (e2 := ((kd + 0 : Nat) : Int)) (by omega) ?_
                  refine va_put (D := D) (ci := 2) (v := .int (zI (((kd + 0 : Nat) : Int)))) (ty := .int) (C := RX0) (T := TX0) (N := 4) hx hb hts iX0 tyX0 tyX0_ok nmX0 hown hK hP hD hS 0 rfl rfl 3 (by decide) (hts (.fieldLink RX0 29 "CancelRows$BestRows" "kinds" "I") (by decide +kernel)) (fun _ h9 => h9) rfl (by decide +kernel) rfl rfl (Nat.le_of_ble_eq_true rfl) dX0_init_136 (fun H locs hP hD hS => ?_)
                  have hP : va_P D vwCl [(q, .inr (2, [.int (zI (v)), .int (zI (((l0 : Nat) : Int))), .int (zI (((mm + alk n : Nat) : Int))), .int (zI (((kd + 0 : Nat) : Int)))]))] H := hP
                  have hD : va_D AA [(q, .inr (2, [.int (zI (v)), .int (zI (((l0 : Nat) : Int))), .int (zI (((mm + alk n : Nat) : Int))), .int (zI (((kd + 0 : Nat) : Int)))]))] := hD
                  refine lv_iinc (v := zI (((xx + 1 : Nat) : Int))) (lv' := [(5, .int (zI (((xx + 1 : Nat) : Int)))), (6, .int (zI (fm n way xx))), (0, .ref q), (1, .int (zI (n))), (2, .int (zI (way))), (3, .int (zI (((alk n : Nat) : Int)))), (4, .int (zI (((qn n : Nat) : Int))))]) hx hb dX0_init_139 hl (k := 6) rfl (zI_incr (by omega)) (by decide) rfl (fun ls hl => ?_)
                  refine lv_goto (tgt := 31) hx hb dX0_init_142 (by decide) ?_
                  exact ih31 (xx + 1) (v) (l0) (mm + alk n) (kd + 0) (by omega) (by rw [bs_eq (by rw [q2]; exact c98), q2, show gm n xx = false from decide_eq_false (by omega)]; rfl) (by omega) (by omega) (by omega) _ _ hP hD hS _ (lv_sub hl [2, 3, 4, 5, 6, 0] rfl)
                · refine lv_iconst (v := zI 1) hx hb dX0_init_130 rfl ?_
                  refine z_re (e2 := ((1 : Nat) : Int)) (rfl) ?_
                  refine lv_goto (tgt := 135) hx hb dX0_init_131 (by decide) ?_
                  refine z_iadd hx hb dX0_init_135 ?_
                  refine z_re (e2 := ((kd + 1 : Nat) : Int)) (by omega) ?_
                  refine va_put (D := D) (ci := 2) (v := .int (zI (((kd + 1 : Nat) : Int)))) (ty := .int) (C := RX0) (T := TX0) (N := 4) hx hb hts iX0 tyX0 tyX0_ok nmX0 hown hK hP hD hS 0 rfl rfl 3 (by decide) (hts (.fieldLink RX0 29 "CancelRows$BestRows" "kinds" "I") (by decide +kernel)) (fun _ h9 => h9) rfl (by decide +kernel) rfl rfl (Nat.le_of_ble_eq_true rfl) dX0_init_136 (fun H locs hP hD hS => ?_)
                  have hP : va_P D vwCl [(q, .inr (2, [.int (zI (v)), .int (zI (((l0 : Nat) : Int))), .int (zI (((mm + alk n : Nat) : Int))), .int (zI (((kd + 1 : Nat) : Int)))]))] H := hP
                  have hD : va_D AA [(q, .inr (2, [.int (zI (v)), .int (zI (((l0 : Nat) : Int))), .int (zI (((mm + alk n : Nat) : Int))), .int (zI (((kd + 1 : Nat) : Int)))]))] := hD
                  refine lv_iinc (v := zI (((xx + 1 : Nat) : Int))) (lv' := [(5, .int (zI (((xx + 1 : Nat) : Int)))), (6, .int (zI (fm n way xx))), (0, .ref q), (1, .int (zI (n))), (2, .int (zI (way))), (3, .int (zI (((alk n : Nat) : Int)))), (4, .int (zI (((qn n : Nat) : Int))))]) hx hb dX0_init_139 hl (k := 6) rfl (zI_incr (by omega)) (by decide) rfl (fun ls hl => ?_)
                  refine lv_goto (tgt := 31) hx hb dX0_init_142 (by decide) ?_
                  exact ih31 (xx + 1) (v) (l0) (mm + alk n) (kd + 1) (by omega) (by rw [bs_eq (by rw [q2]; exact c98), q2, show gm n xx = true from decide_eq_true (by omega)]; rfl) (by omega) (by omega) (by omega) _ _ hP hD hS _ (lv_sub hl [2, 3, 4, 5, 6, 0] rfl)
            · refine lv_aload_n hx hb dX0_init_70 rfl (lv_at hl 1 rfl) ?_
              refine lv_iload hx hb dX0_init_71 (lv_at hl 0 rfl) ?_
              refine va_put (D := D) (ci := 2) (v := .int (zI (fm n way xx))) (ty := .int) (C := RX0) (T := TX0) (N := 4) hx hb hts iX0 tyX0 tyX0_ok nmX0 hown hK hP hD hS 0 rfl rfl 0 (by decide) (hts (.fieldLink RX0 10 "CancelRows$BestRows" "value" "I") (by decide +kernel)) (fun _ h9 => h9) rfl (by decide +kernel) rfl rfl (Nat.le_of_ble_eq_true rfl) dX0_init_73 (fun H locs hP hD hS => ?_)
              have hP : va_P D vwCl [(q, .inr (2, [.int (zI (fm n way xx)), .int (zI (((l0 : Nat) : Int))), .int (zI (((mm : Nat) : Int))), .int (zI (((kd : Nat) : Int)))]))] H := hP
              have hD : va_D AA [(q, .inr (2, [.int (zI (fm n way xx)), .int (zI (((l0 : Nat) : Int))), .int (zI (((mm : Nat) : Int))), .int (zI (((kd : Nat) : Int)))]))] := hD
              refine lv_aload_n hx hb dX0_init_76 rfl (lv_at hl 1 rfl) ?_
              refine lv_iload hx hb dX0_init_77 (lv_at hl 6 rfl) ?_
              refine va_put (D := D) (ci := 2) (v := .int (zI (((xx : Nat) : Int)))) (ty := .int) (C := RX0) (T := TX0) (N := 4) hx hb hts iX0 tyX0 tyX0_ok nmX0 hown hK hP hD hS 0 rfl rfl 1 (by decide) (hts (.fieldLink RX0 23 "CancelRows$BestRows" "leastNumber" "I") (by decide +kernel)) (fun _ h9 => h9) rfl (by decide +kernel) rfl rfl (Nat.le_of_ble_eq_true rfl) dX0_init_79 (fun H locs hP hD hS => ?_)
              have hP : va_P D vwCl [(q, .inr (2, [.int (zI (fm n way xx)), .int (zI (((xx : Nat) : Int))), .int (zI (((mm : Nat) : Int))), .int (zI (((kd : Nat) : Int)))]))] H := hP
              have hD : va_D AA [(q, .inr (2, [.int (zI (fm n way xx)), .int (zI (((xx : Nat) : Int))), .int (zI (((mm : Nat) : Int))), .int (zI (((kd : Nat) : Int)))]))] := hD
              refine lv_aload_n hx hb dX0_init_82 rfl (lv_at hl 1 rfl) ?_
              refine lv_iconst (v := zI 0) hx hb dX0_init_83 rfl ?_
              refine z_re (e2 := ((0 : Nat) : Int)) (rfl) ?_
              refine va_put (D := D) (ci := 2) (v := .int (zI (((0 : Nat) : Int)))) (ty := .int) (C := RX0) (T := TX0) (N := 4) hx hb hts iX0 tyX0 tyX0_ok nmX0 hown hK hP hD hS 0 rfl rfl 2 (by decide) (hts (.fieldLink RX0 26 "CancelRows$BestRows" "many" "I") (by decide +kernel)) (fun _ h9 => h9) rfl (by decide +kernel) rfl rfl (Nat.le_of_ble_eq_true rfl) dX0_init_84 (fun H locs hP hD hS => ?_)
              have hP : va_P D vwCl [(q, .inr (2, [.int (zI (fm n way xx)), .int (zI (((xx : Nat) : Int))), .int (zI (((0 : Nat) : Int))), .int (zI (((kd : Nat) : Int)))]))] H := hP
              have hD : va_D AA [(q, .inr (2, [.int (zI (fm n way xx)), .int (zI (((xx : Nat) : Int))), .int (zI (((0 : Nat) : Int))), .int (zI (((kd : Nat) : Int)))]))] := hD
              refine lv_aload_n hx hb dX0_init_87 rfl (lv_at hl 1 rfl) ?_
              refine lv_iconst (v := zI 0) hx hb dX0_init_88 rfl ?_
              refine z_re (e2 := ((0 : Nat) : Int)) (rfl) ?_
              refine va_put (D := D) (ci := 2) (v := .int (zI (((0 : Nat) : Int)))) (ty := .int) (C := RX0) (T := TX0) (N := 4) hx hb hts iX0 tyX0 tyX0_ok nmX0 hown hK hP hD hS 0 rfl rfl 3 (by decide) (hts (.fieldLink RX0 29 "CancelRows$BestRows" "kinds" "I") (by decide +kernel)) (fun _ h9 => h9) rfl (by decide +kernel) rfl rfl (Nat.le_of_ble_eq_true rfl) dX0_init_89 (fun H locs hP hD hS => ?_)
              have hP : va_P D vwCl [(q, .inr (2, [.int (zI (fm n way xx)), .int (zI (((xx : Nat) : Int))), .int (zI (((0 : Nat) : Int))), .int (zI (((0 : Nat) : Int)))]))] H := hP
              have hD : va_D AA [(q, .inr (2, [.int (zI (fm n way xx)), .int (zI (((xx : Nat) : Int))), .int (zI (((0 : Nat) : Int))), .int (zI (((0 : Nat) : Int)))]))] := hD
              refine lv_iload hx hb dX0_init_92 (lv_at hl 0 rfl) ?_
              refine lv_aload_n hx hb dX0_init_94 rfl (lv_at hl 1 rfl) ?_
              refine va_get (D := D) (ci := 2) (v := .int (zI (fm n way xx))) (C := RX0) (T := TX0) (N := 4) hx hb hts iX0 hown hK hP 0 rfl rfl 0 (by decide) (hts (.fieldLink RX0 10 "CancelRows$BestRows" "value" "I") (by decide +kernel)) (fun _ h9 => h9) rfl dX0_init_95 ?_
              refine z_icmp_ne (tgt := 139) hx hb dX0_init_98 (by decide) (by omega) (by omega) (fun c98 => ?_) (fun c98 => ?_)
              · exact absurd rfl c98
              · refine lv_aload_n hx hb dX0_init_101 rfl (lv_at hl 1 rfl) ?_
                refine lv_dup hx hb dX0_init_102 rfl ?_
                refine va_get (D := D) (ci := 2) (v := .int (zI (((0 : Nat) : Int)))) (C := RX0) (T := TX0) (N := 4) hx hb hts iX0 hown hK hP 0 rfl rfl 2 (by decide) (hts (.fieldLink RX0 26 "CancelRows$BestRows" "many" "I") (by decide +kernel)) (fun _ h9 => h9) rfl dX0_init_103 ?_
                refine lv_iload_n hx hb dX0_init_106 rfl (lv_at hl 4 rfl) ?_
                refine z_iadd hx hb dX0_init_107 ?_
                refine z_re (e2 := ((alk n : Nat) : Int)) (by omega) ?_
                refine va_put (D := D) (ci := 2) (v := .int (zI (((alk n : Nat) : Int)))) (ty := .int) (C := RX0) (T := TX0) (N := 4) hx hb hts iX0 tyX0 tyX0_ok nmX0 hown hK hP hD hS 0 rfl rfl 2 (by decide) (hts (.fieldLink RX0 26 "CancelRows$BestRows" "many" "I") (by decide +kernel)) (fun _ h9 => h9) rfl (by decide +kernel) rfl rfl (Nat.le_of_ble_eq_true rfl) dX0_init_108 (fun H locs hP hD hS => ?_)
                have hP : va_P D vwCl [(q, .inr (2, [.int (zI (fm n way xx)), .int (zI (((xx : Nat) : Int))), .int (zI (((alk n : Nat) : Int))), .int (zI (((0 : Nat) : Int)))]))] H := hP
                have hD : va_D AA [(q, .inr (2, [.int (zI (fm n way xx)), .int (zI (((xx : Nat) : Int))), .int (zI (((alk n : Nat) : Int))), .int (zI (((0 : Nat) : Int)))]))] := hD
                refine lv_aload_n hx hb dX0_init_111 rfl (lv_at hl 1 rfl) ?_
                refine lv_dup hx hb dX0_init_112 rfl ?_
                refine va_get (D := D) (ci := 2) (v := .int (zI (((0 : Nat) : Int)))) (C := RX0) (T := TX0) (N := 4) hx hb hts iX0 hown hK hP 0 rfl rfl 3 (by decide) (hts (.fieldLink RX0 29 "CancelRows$BestRows" "kinds" "I") (by decide +kernel)) (fun _ h9 => h9) rfl dX0_init_113 ?_
                refine lv_iload hx hb dX0_init_116 (lv_at hl 6 rfl) ?_
                refine n_i2l (a := xx) hx hb (by omega) dX0_init_118 ?_
                refine lv_iload_n hx hb dX0_init_119 rfl (lv_at hl 2 rfl) ?_
                refine vp_callSl (va_runS (As := [.long (lN (xx)), .int (zI (n))]) (rest := [.int (zI (((0 : Nat) : Int))), .ref q]) ⟨hx, hb, hml, hown, hts⟩ (c_X3_leastTurned l xx n (by omega) (by omega)) (va_cwS 2 hts gX0_init_X3_leastTurned rfl rfl rfl (by decide +kernel) ⟨Nat.le_of_ble_eq_true rfl, Nat.le_of_ble_eq_true rfl⟩) ⟨fun a U g mk q => q, fun U hU hW => ⟨rfl, trivial⟩⟩ rfl rfl hl.1 rfl (lv_room (Nat.le_of_ble_eq_true rfl)) dX0_init_120 ⟨Nat.le_of_ble_eq_true rfl, Nat.le_of_ble_eq_true rfl⟩).run (fun r hr120 => ?_)
                obtain rfl := hr120
                have b2 := ltw_lt (show xx < 2 ^ n by omega) 8
                refine lv_iload hx hb dX0_init_123 (lv_at hl 6 rfl) ?_
                refine n_i2l (a := xx) hx hb (by omega) dX0_init_125 ?_
                refine z_lcmp_ne (a := ((ltw (n) (xx) 8 : Nat) : Int)) (b := ((xx : Nat) : Int)) (tgt := 134) hx hb dX0_init_126 dX0_init_127 (by decide) (lN_toI (n := ltw (n) (xx) 8) (by omega)) (lN_toI (n := xx) (by omega)) (fun c126 => ?_) (fun c126 => ?_)
                · refine lv_iconst (v := zI 0) hx hb dX0_init_134 rfl ?_
                  refine z_re (e2 := ((0 : Nat) : Int)) (rfl) ?_
                  refine z_iadd hx hb dX0_init_135 ?_
                  refine z_re (e2 := ((0 + 0 : Nat) : Int)) (by omega) ?_
                  refine va_put (D := D) (ci := 2) (v := .int (zI (((0 + 0 : Nat) : Int)))) (ty := .int) (C := RX0) (T := TX0) (N := 4) hx hb hts iX0 tyX0 tyX0_ok nmX0 hown hK hP hD hS 0 rfl rfl 3 (by decide) (hts (.fieldLink RX0 29 "CancelRows$BestRows" "kinds" "I") (by decide +kernel)) (fun _ h9 => h9) rfl (by decide +kernel) rfl rfl (Nat.le_of_ble_eq_true rfl) dX0_init_136 (fun H locs hP hD hS => ?_)
                  have hP : va_P D vwCl [(q, .inr (2, [.int (zI (fm n way xx)), .int (zI (((xx : Nat) : Int))), .int (zI (((alk n : Nat) : Int))), .int (zI (((0 + 0 : Nat) : Int)))]))] H := hP
                  have hD : va_D AA [(q, .inr (2, [.int (zI (fm n way xx)), .int (zI (((xx : Nat) : Int))), .int (zI (((alk n : Nat) : Int))), .int (zI (((0 + 0 : Nat) : Int)))]))] := hD
                  refine lv_iinc (v := zI (((xx + 1 : Nat) : Int))) (lv' := [(5, .int (zI (((xx + 1 : Nat) : Int)))), (6, .int (zI (fm n way xx))), (0, .ref q), (1, .int (zI (n))), (2, .int (zI (way))), (3, .int (zI (((alk n : Nat) : Int)))), (4, .int (zI (((qn n : Nat) : Int))))]) hx hb dX0_init_139 hl (k := 6) rfl (zI_incr (by omega)) (by decide) rfl (fun ls hl => ?_)
                  refine lv_goto (tgt := 31) hx hb dX0_init_142 (by decide) ?_
                  exact ih31 (xx + 1) (fm n way xx) (xx) (alk n) (0 + 0) (by omega) (by rw [bs_lt (by rw [q2]; exact c67), show gm n xx = false from decide_eq_false (by omega)]; rfl) (by omega) (by omega) (by omega) _ _ hP hD hS _ (lv_sub hl [2, 3, 4, 5, 6, 0] rfl)
                · refine lv_iconst (v := zI 1) hx hb dX0_init_130 rfl ?_
                  refine z_re (e2 := ((1 : Nat) : Int)) (rfl) ?_
                  refine lv_goto (tgt := 135) hx hb dX0_init_131 (by decide) ?_
                  refine z_iadd hx hb dX0_init_135 ?_
                  refine z_re (e2 := ((0 + 1 : Nat) : Int)) (by omega) ?_
                  refine va_put (D := D) (ci := 2) (v := .int (zI (((0 + 1 : Nat) : Int)))) (ty := .int) (C := RX0) (T := TX0) (N := 4) hx hb hts iX0 tyX0 tyX0_ok nmX0 hown hK hP hD hS 0 rfl rfl 3 (by decide) (hts (.fieldLink RX0 29 "CancelRows$BestRows" "kinds" "I") (by decide +kernel)) (fun _ h9 => h9) rfl (by decide +kernel) rfl rfl (Nat.le_of_ble_eq_true rfl) dX0_init_136 (fun H locs hP hD hS => ?_)
                  have hP : va_P D vwCl [(q, .inr (2, [.int (zI (fm n way xx)), .int (zI (((xx : Nat) : Int))), .int (zI (((alk n : Nat) : Int))), .int (zI (((0 + 1 : Nat) : Int)))]))] H := hP
                  have hD : va_D AA [(q, .inr (2, [.int (zI (fm n way xx)), .int (zI (((xx : Nat) : Int))), .int (zI (((alk n : Nat) : Int))), .int (zI (((0 + 1 : Nat) : Int)))]))] := hD
                  refine lv_iinc (v := zI (((xx + 1 : Nat) : Int))) (lv' := [(5, .int (zI (((xx + 1 : Nat) : Int)))), (6, .int (zI (fm n way xx))), (0, .ref q), (1, .int (zI (n))), (2, .int (zI (way))), (3, .int (zI (((alk n : Nat) : Int)))), (4, .int (zI (((qn n : Nat) : Int))))]) hx hb dX0_init_139 hl (k := 6) rfl (zI_incr (by omega)) (by decide) rfl (fun ls hl => ?_)
                  refine lv_goto (tgt := 31) hx hb dX0_init_142 (by decide) ?_
                  exact ih31 (xx + 1) (fm n way xx) (xx) (alk n) (0 + 1) (by omega) (by rw [bs_lt (by rw [q2]; exact c67), show gm n xx = true from decide_eq_true (by omega)]; rfl) (by omega) (by omega) (by omega) _ _ hP hD hS _ (lv_sub hl [2, 3, 4, 5, 6, 0] rfl)
          · refine lv_iload hx hb dX0_init_42 (lv_at hl 5 rfl) ?_
            refine n_i2l (a := xx) hx hb (by omega) dX0_init_44 ?_
            refine lv_iload_n hx hb dX0_init_45 rfl (lv_at hl 1 rfl) ?_
            refine vp_callSi (va_runS (As := [.long (lN (xx)), .int (zI (n))]) (rest := []) ⟨hx, hb, hml, hown, hts⟩ (c_X3_peak l xx n (by omega) gn.1 (by omega)) (va_cwS 2 hts gX0_init_X3_peak rfl rfl rfl (by decide +kernel) ⟨Nat.le_of_ble_eq_true rfl, Nat.le_of_ble_eq_true rfl⟩) ⟨fun a U g mk q => q, fun U hU hW => ⟨rfl, trivial⟩⟩ rfl rfl hl.1 rfl (lv_room (Nat.le_of_ble_eq_true rfl)) dX0_init_46 ⟨Nat.le_of_ble_eq_true rfl, Nat.le_of_ble_eq_true rfl⟩).run (fun r hr46 => ?_)
            obtain rfl := hr46
            refine z_re (e2 := fm n way xx) (by rw [fm, if_pos c39]) ?_
            refine lv_goto (tgt := 59) hx hb dX0_init_49 (by decide) ?_
            refine lv_istore (lv' := [(6, .int (zI (fm n way xx))), (0, .ref q), (1, .int (zI (n))), (2, .int (zI (way))), (3, .int (zI (((alk n : Nat) : Int)))), (4, .int (zI (((qn n : Nat) : Int)))), (5, .int (zI (((xx : Nat) : Int))))]) hx hb dX0_init_59 hl (by decide) rfl (fun ls hl => ?_)
            refine lv_iload hx hb dX0_init_61 (lv_at hl 0 rfl) ?_
            refine lv_aload_n hx hb dX0_init_63 rfl (lv_at hl 1 rfl) ?_
            refine va_get (D := D) (ci := 2) (v := .int (zI (v))) (C := RX0) (T := TX0) (N := 4) hx hb hts iX0 hown hK hP 0 rfl rfl 0 (by decide) (hts (.fieldLink RX0 10 "CancelRows$BestRows" "value" "I") (by decide +kernel)) (fun _ h9 => h9) rfl dX0_init_64 ?_
            refine z_icmp_ge (tgt := 92) hx hb dX0_init_67 (by decide) (by omega) (by omega) (fun c67 => ?_) (fun c67 => ?_)
            · refine lv_iload hx hb dX0_init_92 (lv_at hl 0 rfl) ?_
              refine lv_aload_n hx hb dX0_init_94 rfl (lv_at hl 1 rfl) ?_
              refine va_get (D := D) (ci := 2) (v := .int (zI (v))) (C := RX0) (T := TX0) (N := 4) hx hb hts iX0 hown hK hP 0 rfl rfl 0 (by decide) (hts (.fieldLink RX0 10 "CancelRows$BestRows" "value" "I") (by decide +kernel)) (fun _ h9 => h9) rfl dX0_init_95 ?_
              refine z_icmp_ne (tgt := 139) hx hb dX0_init_98 (by decide) (by omega) (by omega) (fun c98 => ?_) (fun c98 => ?_)
              · refine lv_iinc (v := zI (((xx + 1 : Nat) : Int))) (lv' := [(5, .int (zI (((xx + 1 : Nat) : Int)))), (6, .int (zI (fm n way xx))), (0, .ref q), (1, .int (zI (n))), (2, .int (zI (way))), (3, .int (zI (((alk n : Nat) : Int)))), (4, .int (zI (((qn n : Nat) : Int))))]) hx hb dX0_init_139 hl (k := 6) rfl (zI_incr (by omega)) (by decide) rfl (fun ls hl => ?_)
                refine lv_goto (tgt := 31) hx hb dX0_init_142 (by decide) ?_
                exact ih31 (xx + 1) (v) (l0) (mm) (kd) (by omega) (by rw [bs_gt (by rw [q2]; show v < _; omega)]; exact q2) (by omega) (by omega) (by omega) _ _ hP hD hS _ (lv_sub hl [2, 3, 4, 5, 6, 0] rfl)
              · refine lv_aload_n hx hb dX0_init_101 rfl (lv_at hl 1 rfl) ?_
                refine lv_dup hx hb dX0_init_102 rfl ?_
                refine va_get (D := D) (ci := 2) (v := .int (zI (((mm : Nat) : Int)))) (C := RX0) (T := TX0) (N := 4) hx hb hts iX0 hown hK hP 0 rfl rfl 2 (by decide) (hts (.fieldLink RX0 26 "CancelRows$BestRows" "many" "I") (by decide +kernel)) (fun _ h9 => h9) rfl dX0_init_103 ?_
                refine lv_iload_n hx hb dX0_init_106 rfl (lv_at hl 4 rfl) ?_
                refine z_iadd hx hb dX0_init_107 ?_
                refine z_re (e2 := ((mm + alk n : Nat) : Int)) (by omega) ?_
                refine va_put (D := D) (ci := 2) (v := .int (zI (((mm + alk n : Nat) : Int)))) (ty := .int) (C := RX0) (T := TX0) (N := 4) hx hb hts iX0 tyX0 tyX0_ok nmX0 hown hK hP hD hS 0 rfl rfl 2 (by decide) (hts (.fieldLink RX0 26 "CancelRows$BestRows" "many" "I") (by decide +kernel)) (fun _ h9 => h9) rfl (by decide +kernel) rfl rfl (Nat.le_of_ble_eq_true rfl) dX0_init_108 (fun H locs hP hD hS => ?_)
                have hP : va_P D vwCl [(q, .inr (2, [.int (zI (v)), .int (zI (((l0 : Nat) : Int))), .int (zI (((mm + alk n : Nat) : Int))), .int (zI (((kd : Nat) : Int)))]))] H := hP
                have hD : va_D AA [(q, .inr (2, [.int (zI (v)), .int (zI (((l0 : Nat) : Int))), .int (zI (((mm + alk n : Nat) : Int))), .int (zI (((kd : Nat) : Int)))]))] := hD
                refine lv_aload_n hx hb dX0_init_111 rfl (lv_at hl 1 rfl) ?_
                refine lv_dup hx hb dX0_init_112 rfl ?_
                refine va_get (D := D) (ci := 2) (v := .int (zI (((kd : Nat) : Int)))) (C := RX0) (T := TX0) (N := 4) hx hb hts iX0 hown hK hP 0 rfl rfl 3 (by decide) (hts (.fieldLink RX0 29 "CancelRows$BestRows" "kinds" "I") (by decide +kernel)) (fun _ h9 => h9) rfl dX0_init_113 ?_
                refine lv_iload hx hb dX0_init_116 (lv_at hl 6 rfl) ?_
                refine n_i2l (a := xx) hx hb (by omega) dX0_init_118 ?_
                refine lv_iload_n hx hb dX0_init_119 rfl (lv_at hl 2 rfl) ?_
                refine vp_callSl (va_runS (As := [.long (lN (xx)), .int (zI (n))]) (rest := [.int (zI (((kd : Nat) : Int))), .ref q]) ⟨hx, hb, hml, hown, hts⟩ (c_X3_leastTurned l xx n (by omega) (by omega)) (va_cwS 2 hts gX0_init_X3_leastTurned rfl rfl rfl (by decide +kernel) ⟨Nat.le_of_ble_eq_true rfl, Nat.le_of_ble_eq_true rfl⟩) ⟨fun a U g mk q => q, fun U hU hW => ⟨rfl, trivial⟩⟩ rfl rfl hl.1 rfl (lv_room (Nat.le_of_ble_eq_true rfl)) dX0_init_120 ⟨Nat.le_of_ble_eq_true rfl, Nat.le_of_ble_eq_true rfl⟩).run (fun r hr120 => ?_)
                obtain rfl := hr120
                have b2 := ltw_lt (show xx < 2 ^ n by omega) 8
                refine lv_iload hx hb dX0_init_123 (lv_at hl 6 rfl) ?_
                refine n_i2l (a := xx) hx hb (by omega) dX0_init_125 ?_
                refine z_lcmp_ne (a := ((ltw (n) (xx) 8 : Nat) : Int)) (b := ((xx : Nat) : Int)) (tgt := 134) hx hb dX0_init_126 dX0_init_127 (by decide) (lN_toI (n := ltw (n) (xx) 8) (by omega)) (lN_toI (n := xx) (by omega)) (fun c126 => ?_) (fun c126 => ?_)
                · refine lv_iconst (v := zI 0) hx hb dX0_init_134 rfl ?_
                  refine z_re (e2 := ((0 : Nat) : Int)) (rfl) ?_
                  refine z_iadd hx hb dX0_init_135 ?_
                  refine z_re (e2 := ((kd + 0 : Nat) : Int)) (by omega) ?_
                  refine va_put (D := D) (ci := 2) (v := .int (zI (((kd + 0 : Nat) : Int)))) (ty := .int) (C := RX0) (T := TX0) (N := 4) hx hb hts iX0 tyX0 tyX0_ok nmX0 hown hK hP hD hS 0 rfl rfl 3 (by decide) (hts (.fieldLink RX0 29 "CancelRows$BestRows" "kinds" "I") (by decide +kernel)) (fun _ h9 => h9) rfl (by decide +kernel) rfl rfl (Nat.le_of_ble_eq_true rfl) dX0_init_136 (fun H locs hP hD hS => ?_)
                  have hP : va_P D vwCl [(q, .inr (2, [.int (zI (v)), .int (zI (((l0 : Nat) : Int))), .int (zI (((mm + alk n : Nat) : Int))), .int (zI (((kd + 0 : Nat) : Int)))]))] H := hP
                  have hD : va_D AA [(q, .inr (2, [.int (zI (v)), .int (zI (((l0 : Nat) : Int))), .int (zI (((mm + alk n : Nat) : Int))), .int (zI (((kd + 0 : Nat) : Int)))]))] := hD
                  refine lv_iinc (v := zI (((xx + 1 : Nat) : Int))) (lv' := [(5, .int (zI (((xx + 1 : Nat) : Int)))), (6, .int (zI (fm n way xx))), (0, .ref q), (1, .int (zI (n))), (2, .int (zI (way))), (3, .int (zI (((alk n : Nat) : Int)))), (4, .int (zI (((qn n : Nat) : Int))))]) hx hb dX0_init_139 hl (k := 6) rfl (zI_incr (by omega)) (by decide) rfl (fun ls hl => ?_)
                  refine lv_goto (tgt := 31) hx hb dX0_init_142 (by decide) ?_
                  exact ih31 (xx + 1) (v) (l0) (mm + alk n) (kd + 0) (by omega) (by rw [bs_eq (by rw [q2]; exact c98), q2, show gm n xx = false from decide_eq_false (by omega)]; rfl) (by omega) (by omega) (by omega) _ _ hP hD hS _ (lv_sub hl [2, 3, 4, 5, 6, 0] rfl)
                · refine lv_iconst (v := zI 1) hx hb dX0_init_130 rfl ?_
                  refine z_re (e2 := ((1 : Nat) : Int)) (rfl) ?_
                  refine lv_goto (tgt := 135) hx hb dX0_init_131 (by decide) ?_
                  refine z_iadd hx hb dX0_init_135 ?_
                  refine z_re (e2 := ((kd + 1 : Nat) : Int)) (by omega) ?_
                  refine va_put (D := D) (ci := 2) (v := .int (zI (((kd + 1 : Nat) : Int)))) (ty := .int) (C := RX0) (T := TX0) (N := 4) hx hb hts iX0 tyX0 tyX0_ok nmX0 hown hK hP hD hS 0 rfl rfl 3 (by decide) (hts (.fieldLink RX0 29 "CancelRows$BestRows" "kinds" "I") (by decide +kernel)) (fun _ h9 => h9) rfl (by decide +kernel) rfl rfl (Nat.le_of_ble_eq_true rfl) dX0_init_136 (fun H locs hP hD hS => ?_)
                  have hP : va_P D vwCl [(q, .inr (2, [.int (zI (v)), .int (zI (((l0 : Nat) : Int))), .int (zI (((mm + alk n : Nat) : Int))), .int (zI (((kd + 1 : Nat) : Int)))]))] H := hP
                  have hD : va_D AA [(q, .inr (2, [.int (zI (v)), .int (zI (((l0 : Nat) : Int))), .int (zI (((mm + alk n : Nat) : Int))), .int (zI (((kd + 1 : Nat) : Int)))]))] := hD
                  refine lv_iinc (v := zI (((xx + 1 : Nat) : Int))) (lv' := [(5, .int (zI (((xx + 1 : Nat) : Int)))), (6, .int (zI (fm n way xx))), (0, .ref q), (1, .int (zI (n))), (2, .int (zI (way))), (3, .int (zI (((alk n : Nat) : Int)))), (4, .int (zI (((qn n : Nat) : Int))))]) hx hb dX0_init_139 hl (k := 6) rfl (zI_incr (by omega)) (by decide) rfl (fun ls hl => ?_)
                  refine lv_goto (tgt := 31) hx hb dX0_init_142 (by decide) ?_
                  exact ih31 (xx + 1) (v) (l0) (mm + alk n) (kd + 1) (by omega) (by rw [bs_eq (by rw [q2]; exact c98), q2, show gm n xx = true from decide_eq_true (by omega)]; rfl) (by omega) (by omega) (by omega) _ _ hP hD hS _ (lv_sub hl [2, 3, 4, 5, 6, 0] rfl)
            · refine lv_aload_n hx hb dX0_init_70 rfl (lv_at hl 1 rfl) ?_
              refine lv_iload hx hb dX0_init_71 (lv_at hl 0 rfl) ?_
              refine va_put (D := D) (ci := 2) (v := .int (zI (fm n way xx))) (ty := .int) (C := RX0) (T := TX0) (N := 4) hx hb hts iX0 tyX0 tyX0_ok nmX0 hown hK hP hD hS 0 rfl rfl 0 (by decide) (hts (.fieldLink RX0 10 "CancelRows$BestRows" "value" "I") (by decide +kernel)) (fun _ h9 => h9) rfl (by decide +kernel) rfl rfl (Nat.le_of_ble_eq_true rfl) dX0_init_73 (fun H locs hP hD hS => ?_)
              have hP : va_P D vwCl [(q, .inr (2, [.int (zI (fm n way xx)), .int (zI (((l0 : Nat) : Int))), .int (zI (((mm : Nat) : Int))), .int (zI (((kd : Nat) : Int)))]))] H := hP
              have hD : va_D AA [(q, .inr (2, [.int (zI (fm n way xx)), .int (zI (((l0 : Nat) : Int))), .int (zI (((mm : Nat) : Int))), .int (zI (((kd : Nat) : Int)))]))] := hD
              refine lv_aload_n hx hb dX0_init_76 rfl (lv_at hl 1 rfl) ?_
              refine lv_iload hx hb dX0_init_77 (lv_at hl 6 rfl) ?_
              refine va_put (D := D) (ci := 2) (v := .int (zI (((xx : Nat) : Int)))) (ty := .int) (C := RX0) (T := TX0) (N := 4) hx hb hts iX0 tyX0 tyX0_ok nmX0 hown hK hP hD hS 0 rfl rfl 1 (by decide) (hts (.fieldLink RX0 23 "CancelRows$BestRows" "leastNumber" "I") (by decide +kernel)) (fun _ h9 => h9) rfl (by decide +kernel) rfl rfl (Nat.le_of_ble_eq_true rfl) dX0_init_79 (fun H locs hP hD hS => ?_)
              have hP : va_P D vwCl [(q, .inr (2, [.int (zI (fm n way xx)), .int (zI (((xx : Nat) : Int))), .int (zI (((mm : Nat) : Int))), .int (zI (((kd : Nat) : Int)))]))] H := hP
              have hD : va_D AA [(q, .inr (2, [.int (zI (fm n way xx)), .int (zI (((xx : Nat) : Int))), .int (zI (((mm : Nat) : Int))), .int (zI (((kd : Nat) : Int)))]))] := hD
              refine lv_aload_n hx hb dX0_init_82 rfl (lv_at hl 1 rfl) ?_
              refine lv_iconst (v := zI 0) hx hb dX0_init_83 rfl ?_
              refine z_re (e2 := ((0 : Nat) : Int)) (rfl) ?_
              refine va_put (D := D) (ci := 2) (v := .int (zI (((0 : Nat) : Int)))) (ty := .int) (C := RX0) (T := TX0) (N := 4) hx hb hts iX0 tyX0 tyX0_ok nmX0 hown hK hP hD hS 0 rfl rfl 2 (by decide) (hts (.fieldLink RX0 26 "CancelRows$BestRows" "many" "I") (by decide +kernel)) (fun _ h9 => h9) rfl (by decide +kernel) rfl rfl (Nat.le_of_ble_eq_true rfl) dX0_init_84 (fun H locs hP hD hS => ?_)
              have hP : va_P D vwCl [(q, .inr (2, [.int (zI (fm n way xx)), .int (zI (((xx : Nat) : Int))), .int (zI (((0 : Nat) : Int))), .int (zI (((kd : Nat) : Int)))]))] H := hP
              have hD : va_D AA [(q, .inr (2, [.int (zI (fm n way xx)), .int (zI (((xx : Nat) : Int))), .int (zI (((0 : Nat) : Int))), .int (zI (((kd : Nat) : Int)))]))] := hD
              refine lv_aload_n hx hb dX0_init_87 rfl (lv_at hl 1 rfl) ?_
              refine lv_iconst (v := zI 0) hx hb dX0_init_88 rfl ?_
              refine z_re (e2 := ((0 : Nat) : Int)) (rfl) ?_
              refine va_put (D := D) (ci := 2) (v := .int (zI (((0 : Nat) : Int)))) (ty := .int) (C := RX0) (T := TX0) (N := 4) hx hb hts iX0 tyX0 tyX0_ok nmX0 hown hK hP hD hS 0 rfl rfl 3 (by decide) (hts (.fieldLink RX0 29 "CancelRows$BestRows" "kinds" "I") (by decide +kernel)) (fun _ h9 => h9) rfl (by decide +kernel) rfl rfl (Nat.le_of_ble_eq_true rfl) dX0_init_89 (fun H locs hP hD hS => ?_)
              have hP : va_P D vwCl [(q, .inr (2, [.int (zI (fm n way xx)), .int (zI (((xx : Nat) : Int))), .int (zI (((0 : Nat) : Int))), .int (zI (((0 : Nat) : Int)))]))] H := hP
              have hD : va_D AA [(q, .inr (2, [.int (zI (fm n way xx)), .int (zI (((xx : Nat) : Int))), .int (zI (((0 : Nat) : Int))), .int (zI (((0 : Nat) : Int)))]))] := hD
              refine lv_iload hx hb dX0_init_92 (lv_at hl 0 rfl) ?_
              refine lv_aload_n hx hb dX0_init_94 rfl (lv_at hl 1 rfl) ?_
              refine va_get (D := D) (ci := 2) (v := .int (zI (fm n way xx))) (C := RX0) (T := TX0) (N := 4) hx hb hts iX0 hown hK hP 0 rfl rfl 0 (by decide) (hts (.fieldLink RX0 10 "CancelRows$BestRows" "value" "I") (by decide +kernel)) (fun _ h9 => h9) rfl dX0_init_95 ?_
              refine z_icmp_ne (tgt := 139) hx hb dX0_init_98 (by decide) (by omega) (by omega) (fun c98 => ?_) (fun c98 => ?_)
              · exact absurd rfl c98
              · refine lv_aload_n hx hb dX0_init_101 rfl (lv_at hl 1 rfl) ?_
                refine lv_dup hx hb dX0_init_102 rfl ?_
                refine va_get (D := D) (ci := 2) (v := .int (zI (((0 : Nat) : Int)))) (C := RX0) (T := TX0) (N := 4) hx hb hts iX0 hown hK hP 0 rfl rfl 2 (by decide) (hts (.fieldLink RX0 26 "CancelRows$BestRows" "many" "I") (by decide +kernel)) (fun _ h9 => h9) rfl dX0_init_103 ?_
                refine lv_iload_n hx hb dX0_init_106 rfl (lv_at hl 4 rfl) ?_
                refine z_iadd hx hb dX0_init_107 ?_
                refine z_re (e2 := ((alk n : Nat) : Int)) (by omega) ?_
                refine va_put (D := D) (ci := 2) (v := .int (zI (((alk n : Nat) : Int)))) (ty := .int) (C := RX0) (T := TX0) (N := 4) hx hb hts iX0 tyX0 tyX0_ok nmX0 hown hK hP hD hS 0 rfl rfl 2 (by decide) (hts (.fieldLink RX0 26 "CancelRows$BestRows" "many" "I") (by decide +kernel)) (fun _ h9 => h9) rfl (by decide +kernel) rfl rfl (Nat.le_of_ble_eq_true rfl) dX0_init_108 (fun H locs hP hD hS => ?_)
                have hP : va_P D vwCl [(q, .inr (2, [.int (zI (fm n way xx)), .int (zI (((xx : Nat) : Int))), .int (zI (((alk n : Nat) : Int))), .int (zI (((0 : Nat) : Int)))]))] H := hP
                have hD : va_D AA [(q, .inr (2, [.int (zI (fm n way xx)), .int (zI (((xx : Nat) : Int))), .int (zI (((alk n : Nat) : Int))), .int (zI (((0 : Nat) : Int)))]))] := hD
                refine lv_aload_n hx hb dX0_init_111 rfl (lv_at hl 1 rfl) ?_
                refine lv_dup hx hb dX0_init_112 rfl ?_
                refine va_get (D := D) (ci := 2) (v := .int (zI (((0 : Nat) : Int)))) (C := RX0) (T := TX0) (N := 4) hx hb hts iX0 hown hK hP 0 rfl rfl 3 (by decide) (hts (.fieldLink RX0 29 "CancelRows$BestRows" "kinds" "I") (by decide +kernel)) (fun _ h9 => h9) rfl dX0_init_113 ?_
                refine lv_iload hx hb dX0_init_116 (lv_at hl 6 rfl) ?_
                refine n_i2l (a := xx) hx hb (by omega) dX0_init_118 ?_
                refine lv_iload_n hx hb dX0_init_119 rfl (lv_at hl 2 rfl) ?_
                refine vp_callSl (va_runS (As := [.long (lN (xx)), .int (zI (n))]) (rest := [.int (zI (((0 : Nat) : Int))), .ref q]) ⟨hx, hb, hml, hown, hts⟩ (c_X3_leastTurned l xx n (by omega) (by omega)) (va_cwS 2 hts gX0_init_X3_leastTurned rfl rfl rfl (by decide +kernel) ⟨Nat.le_of_ble_eq_true rfl, Nat.le_of_ble_eq_true rfl⟩) ⟨fun a U g mk q => q, fun U hU hW => ⟨rfl, trivial⟩⟩ rfl rfl hl.1 rfl (lv_room (Nat.le_of_ble_eq_true rfl)) dX0_init_120 ⟨Nat.le_of_ble_eq_true rfl, Nat.le_of_ble_eq_true rfl⟩).run (fun r hr120 => ?_)
                obtain rfl := hr120
                have b2 := ltw_lt (show xx < 2 ^ n by omega) 8
                refine lv_iload hx hb dX0_init_123 (lv_at hl 6 rfl) ?_
                refine n_i2l (a := xx) hx hb (by omega) dX0_init_125 ?_
                refine z_lcmp_ne (a := ((ltw (n) (xx) 8 : Nat) : Int)) (b := ((xx : Nat) : Int)) (tgt := 134) hx hb dX0_init_126 dX0_init_127 (by decide) (lN_toI (n := ltw (n) (xx) 8) (by omega)) (lN_toI (n := xx) (by omega)) (fun c126 => ?_) (fun c126 => ?_)
                · refine lv_iconst (v := zI 0) hx hb dX0_init_134 rfl ?_
                  refine z_re (e2 := ((0 : Nat) : Int)) (rfl) ?_
                  refine z_iadd hx hb dX0_init_135 ?_
                  refine z_re (e2 := ((0 + 0 : Nat) : Int)) (by omega) ?_
                  refine va_put (D := D) (ci := 2) (v := .int (zI (((0 + 0 : Nat) : Int)))) (ty := .int) (C := RX0) (T := TX0) (N := 4) hx hb hts iX0 tyX0 tyX0_ok nmX0 hown hK hP hD hS 0 rfl rfl 3 (by decide) (hts (.fieldLink RX0 29 "CancelRows$BestRows" "kinds" "I") (by decide +kernel)) (fun _ h9 => h9) rfl (by decide +kernel) rfl rfl (Nat.le_of_ble_eq_true rfl) dX0_init_136 (fun H locs hP hD hS => ?_)
                  have hP : va_P D vwCl [(q, .inr (2, [.int (zI (fm n way xx)), .int (zI (((xx : Nat) : Int))), .int (zI (((alk n : Nat) : Int))), .int (zI (((0 + 0 : Nat) : Int)))]))] H := hP
                  have hD : va_D AA [(q, .inr (2, [.int (zI (fm n way xx)), .int (zI (((xx : Nat) : Int))), .int (zI (((alk n : Nat) : Int))), .int (zI (((0 + 0 : Nat) : Int)))]))] := hD
                  refine lv_iinc (v := zI (((xx + 1 : Nat) : Int))) (lv' := [(5, .int (zI (((xx + 1 : Nat) : Int)))), (6, .int (zI (fm n way xx))), (0, .ref q), (1, .int (zI (n))), (2, .int (zI (way))), (3, .int (zI (((alk n : Nat) : Int)))), (4, .int (zI (((qn n : Nat) : Int))))]) hx hb dX0_init_139 hl (k := 6) rfl (zI_incr (by omega)) (by decide) rfl (fun ls hl => ?_)
                  refine lv_goto (tgt := 31) hx hb dX0_init_142 (by decide) ?_
                  exact ih31 (xx + 1) (fm n way xx) (xx) (alk n) (0 + 0) (by omega) (by rw [bs_lt (by rw [q2]; exact c67), show gm n xx = false from decide_eq_false (by omega)]; rfl) (by omega) (by omega) (by omega) _ _ hP hD hS _ (lv_sub hl [2, 3, 4, 5, 6, 0] rfl)
                · refine lv_iconst (v := zI 1) hx hb dX0_init_130 rfl ?_
                  refine z_re (e2 := ((1 : Nat) : Int)) (rfl) ?_
                  refine lv_goto (tgt := 135) hx hb dX0_init_131 (by decide) ?_
                  refine z_iadd hx hb dX0_init_135 ?_
                  refine z_re (e2 := ((0 + 1 : Nat) : Int)) (by omega) ?_
                  refine va_put (D := D) (ci := 2) (v := .int (zI (((0 + 1 : Nat) : Int)))) (ty := .int) (C := RX0) (T := TX0) (N := 4) hx hb hts iX0 tyX0 tyX0_ok nmX0 hown hK hP hD hS 0 rfl rfl 3 (by decide) (hts (.fieldLink RX0 29 "CancelRows$BestRows" "kinds" "I") (by decide +kernel)) (fun _ h9 => h9) rfl (by decide +kernel) rfl rfl (Nat.le_of_ble_eq_true rfl) dX0_init_136 (fun H locs hP hD hS => ?_)
                  have hP : va_P D vwCl [(q, .inr (2, [.int (zI (fm n way xx)), .int (zI (((xx : Nat) : Int))), .int (zI (((alk n : Nat) : Int))), .int (zI (((0 + 1 : Nat) : Int)))]))] H := hP
                  have hD : va_D AA [(q, .inr (2, [.int (zI (fm n way xx)), .int (zI (((xx : Nat) : Int))), .int (zI (((alk n : Nat) : Int))), .int (zI (((0 + 1 : Nat) : Int)))]))] := hD
                  refine lv_iinc (v := zI (((xx + 1 : Nat) : Int))) (lv' := [(5, .int (zI (((xx + 1 : Nat) : Int)))), (6, .int (zI (fm n way xx))), (0, .ref q), (1, .int (zI (n))), (2, .int (zI (way))), (3, .int (zI (((alk n : Nat) : Int)))), (4, .int (zI (((qn n : Nat) : Int))))]) hx hb dX0_init_139 hl (k := 6) rfl (zI_incr (by omega)) (by decide) rfl (fun ls hl => ?_)
                  refine lv_goto (tgt := 31) hx hb dX0_init_142 (by decide) ?_
                  exact ih31 (xx + 1) (fm n way xx) (xx) (alk n) (0 + 1) (by omega) (by rw [bs_lt (by rw [q2]; exact c67), show gm n xx = true from decide_eq_true (by omega)]; rfl) (by omega) (by omega) (by omega) _ _ hP hD hS _ (lv_sub hl [2, 3, 4, 5, 6, 0] rfl)
    exact lp31 _ (0) (1000000) (0) (0) (0) (by omega) (rfl) (by omega) (by omega) (Nat.lt_succ_self _) _ _ hP hD hS _ (lv_sub hl [3, 4, 5, 2, 1, 0] rfl)
  refine z_icmp_ne (tgt := 19) hx hb dX0_init_12 (by decide) (by omega) (by omega) (fun c12 => ?_) (fun c12 => ?_)
  · refine lv_iconst (v := zI 4) hx hb dX0_init_19 rfl ?_
    refine z_re (e2 := ((alk n : Nat) : Int)) (by rw [alk, if_neg (show ¬ n = 1 by omega)]; rfl) ?_
    exact lp20    _ _ hP hD hS _ (lv_sub hl [0, 1, 2] rfl)
  · refine lv_iconst (v := zI 2) hx hb dX0_init_15 rfl ?_
    refine z_re (e2 := ((alk n : Nat) : Int)) (by rw [alk, if_pos (show n = 1 by omega)]; rfl) ?_
    refine lv_goto (tgt := 20) hx hb dX0_init_16 (by decide) ?_
    exact lp20    _ _ hP hD hS _ (lv_sub hl [0, 1, 2] rfl)

-- bestRowsOf, way 0, known
set_option maxHeartbeats 4000000 in
set_option maxRecDepth 100000 in
theorem c_X6_bestRowsOf_0s (l : Launch) (D : va_G) (t : Nat → ClassId) (x : Nat) (a : Nat → Nat) (R : Nat) (pa : Nat → Option Nat) (q : Nat) (n : Nat) (gn : 1 ≤ n ∧ n ≤ 14) (hs : pa n = some q) : Met l yX6_bestRowsOf wsX6_bestRowsOf ({ frames := 0, cells := 0, slots := 0, locals := 0 }) (va_Pc [.ref x, .int (zI (n)), .int (zI (0))] (fun U => va_P D vwCl ([oX x a (((R : Nat) : Int)), aQ t 5 (a 4) 15 (pa)]) U.heap ∧ va_K D vwCl (TY t) U)) (va_Sq (fun r => r = some q)) 0 0 (fun _ => False) := by
  refine Met.ofW (cc := cX6_bestRowsOf) (maxL := 4) (ret := (some (.object "CancelRows$BestRows"))) (by decide) rfl ?_
  intro p e s m args below meth c s₁ B hml hv
  obtain ⟨rfl, hP, hK⟩ := hv
  have hx := B.exec
  have hb := B.bytes
  have hr := B.returns
  have hts := atoms_spec (ws := wsX6_bestRowsOf) B.pre
  have hown : s.vm.findClass RX6 = some m.cls := findClass_of_methodNamed B.named
  have hlocks := B.notSynchronized
  have hl := lv_entry ([.ref x, .int (zI (n)), .int (zI (0))]) (n := 4) (Nat.le_of_ble_eq_true rfl)
  rw [lg_entry_eq]
  generalize (lg_sl ([.ref x, .int (zI (n)), .int (zI (0))]) ++ List.replicate (4 - (lg_sl ([.ref x, .int (zI (n)), .int (zI (0))])).length) Slot.unset).toArray = ls at hl ⊢
  have hl : lv_has ls 4 [(0, .ref x), (1, .int (zI (n))), (2, .int (zI (0)))] := hl
  have iX6 : ∀ w ∈ u_ws RX6 TX6 7, w ∈ wsX6_bestRowsOf := by decide +kernel
  refine lv_iload_n hx hb dX6_bestRowsOf_0 rfl (lv_at hl 2 rfl) ?_
  refine z_if_ne (tgt := 11) hx hb dX6_bestRowsOf_1 (by decide) (by omega) (fun c1 => ?_) (fun c1 => ?_)
  · exact absurd rfl c1
  · refine lv_aload_n hx hb dX6_bestRowsOf_4 rfl (lv_at hl 0 rfl) ?_
    refine va_get (D := D) (ci := 5) (v := .ref (a 4)) (C := RX6) (T := TX6) (N := 7) hx hb hts iX6 hown hK hP 0 rfl rfl 4 (by decide) (hts (.fieldLink RX6 31 "CancelRows" "bestByPeak" "[LCancelRows$BestRows;") (by decide +kernel)) (fun _ h9 => h9) rfl dX6_bestRowsOf_5 ?_
    refine lv_goto (tgt := 15) hx hb dX6_bestRowsOf_8 (by decide) ?_
    refine lv_astore_n (lv' := [(3, .ref (a 4)), (0, .ref x), (1, .int (zI (n))), (2, .int (zI (0)))]) hx hb dX6_bestRowsOf_15 rfl hl (by decide) rfl (fun ls hl => ?_)
    refine lv_aload_n hx hb dX6_bestRowsOf_16 rfl (lv_at hl 0 rfl) ?_
    refine lv_iload_n hx hb dX6_bestRowsOf_17 rfl (lv_at hl 2 rfl) ?_
    refine q_aald hx hb hK hP 1 5 rfl rfl (n) (by omega) (by omega) (by omega) dX6_bestRowsOf_18 ?_
    refine q_some (x := q) (hs) ?_
    refine lv_ifnonnull (tgt := 34) hx hb dX6_bestRowsOf_19 (by decide) ?_
    refine lv_aload_n hx hb dX6_bestRowsOf_34 rfl (lv_at hl 0 rfl) ?_
    refine lv_iload_n hx hb dX6_bestRowsOf_35 rfl (lv_at hl 2 rfl) ?_
    refine q_aald hx hb hK hP 1 5 rfl rfl (n) (by omega) (by omega) (by omega) dX6_bestRowsOf_36 ?_
    refine q_some (x := q) (hs) ?_
    exact W.aret (v := .ref q) hx hb hr (by first | exact Or.inl ⟨_, rfl⟩ | exact Or.inr ⟨_, rfl⟩) (Or.inr ⟨_, rfl⟩) (fun tq ht hW => ⟨some (q), rfl, rfl, ht⟩) (fun q h => by cases h) dX6_bestRowsOf_37

-- bestRowsOf, way 0, new
set_option maxHeartbeats 4000000 in
set_option maxRecDepth 100000 in
theorem c_X6_bestRowsOf_0n (l : Launch) (D : va_G) (t : Nat → ClassId) (sz : Nat) (x : Nat) (a : Nat → Nat) (R : Nat) (pa : Nat → Option Nat) (n : Nat) (gn : 1 ≤ n ∧ n ≤ 14) (hs : pa n = none) : Met l yX6_bestRowsOf wsX6_bestRowsOf ({ frames := 5, cells := 1, slots := 4, locals := 118 }) (va_Pc [.ref x, .int (zI (n)), .int (zI (0))] (fun U => U.heap.size = sz ∧ va_P D vwCl ([oX x a (((R : Nat) : Int)), aQ t 5 (a 4) 15 (pa)]) U.heap ∧ va_K D vwCl (TY t) U ∧ va_D (fun _ => True) ([oX x a (((R : Nat) : Int)), aQ t 5 (a 4) 15 (pa)]))) (va_Qr (fun (u : Unit) => True) (fun (u : Unit) (r : Nat) t1 => va_P D vwCl ([oX x a (((R : Nat) : Int)), aQ t 5 (a 4) 15 (va_up pa n (some r)), (r, .inr (2, [.int (zI ((bv n 0).1)), .int (zI ((((bv n 0).2.1 : Nat) : Int))), .int (zI ((((bv n 0).2.2.1 : Nat) : Int))), .int (zI ((((bv n 0).2.2.2 : Nat) : Int)))]))]) t1.heap ∧ va_K D vwCl (TY t) t1 ∧ va_D (va_A ([oX x a (((R : Nat) : Int)), aQ t 5 (a 4) 15 (pa)]) sz) ([oX x a (((R : Nat) : Int)), aQ t 5 (a 4) 15 (va_up pa n (some r)), (r, .inr (2, [.int (zI ((bv n 0).1)), .int (zI ((((bv n 0).2.1 : Nat) : Int))), .int (zI ((((bv n 0).2.2.1 : Nat) : Int))), .int (zI ((((bv n 0).2.2.2 : Nat) : Int)))]))])) (va_A ([oX x a (((R : Nat) : Int)), aQ t 5 (a 4) 15 (pa)]) sz)) 1 4 (va_A ([oX x a (((R : Nat) : Int)), aQ t 5 (a 4) 15 (pa)]) sz) := by
  refine Met.ofW (cc := cX6_bestRowsOf) (maxL := 4) (ret := (some (.object "CancelRows$BestRows"))) (by decide) rfl ?_
  intro p e s m args below meth c s₁ B hml hv
  obtain ⟨rfl, hsz, hP, hK, hD0⟩ := hv
  have hx := B.exec
  have hb := B.bytes
  have hr := B.returns
  have hts := atoms_spec (ws := wsX6_bestRowsOf) B.pre
  have hown : s.vm.findClass RX6 = some m.cls := findClass_of_methodNamed B.named
  have hlocks := B.notSynchronized
  subst hsz
  have hD := hD0.self (sz := s.heap.size)
  generalize hAe : va_A ([oX x a (((R : Nat) : Int)), aQ t 5 (a 4) 15 (pa)]) s.heap.size = AA at hD ⊢
  have hA : ∀ q : Nat, s.heap.size ≤ q → AA q := fun q h => by rw [← hAe]; exact Or.inr h
  have hS : va_S AA s.heap s.heap [] := va_S.rf
  have hP : va_P D vwCl ([oX x a (((R : Nat) : Int)), aQ t 5 (a 4) 15 (pa)]) s.heap := hP
  have hl := lv_entry ([.ref x, .int (zI (n)), .int (zI (0))]) (n := 4) (Nat.le_of_ble_eq_true rfl)
  rw [lg_entry_eq]
  generalize (lg_sl ([.ref x, .int (zI (n)), .int (zI (0))]) ++ List.replicate (4 - (lg_sl ([.ref x, .int (zI (n)), .int (zI (0))])).length) Slot.unset).toArray = ls at hl ⊢
  have hl : lv_has ls 4 [(0, .ref x), (1, .int (zI (n))), (2, .int (zI (0)))] := hl
  have iX0 : ∀ w ∈ u_ws RX0 TX0 4, w ∈ wsX6_bestRowsOf := by decide +kernel
  have iX6 : ∀ w ∈ u_ws RX6 TX6 7, w ∈ wsX6_bestRowsOf := by decide +kernel
  refine lv_iload_n hx hb dX6_bestRowsOf_0 rfl (lv_at hl 2 rfl) ?_
  refine z_if_ne (tgt := 11) hx hb dX6_bestRowsOf_1 (by decide) (by omega) (fun c1 => ?_) (fun c1 => ?_)
  · exact absurd rfl c1
  · refine lv_aload_n hx hb dX6_bestRowsOf_4 rfl (lv_at hl 0 rfl) ?_
    refine va_get (D := D) (ci := 5) (v := .ref (a 4)) (C := RX6) (T := TX6) (N := 7) hx hb hts iX6 hown hK hP 0 rfl rfl 4 (by decide) (hts (.fieldLink RX6 31 "CancelRows" "bestByPeak" "[LCancelRows$BestRows;") (by decide +kernel)) (fun _ h9 => h9) rfl dX6_bestRowsOf_5 ?_
    refine lv_goto (tgt := 15) hx hb dX6_bestRowsOf_8 (by decide) ?_
    refine lv_astore_n (lv' := [(3, .ref (a 4)), (0, .ref x), (1, .int (zI (n))), (2, .int (zI (0)))]) hx hb dX6_bestRowsOf_15 rfl hl (by decide) rfl (fun ls hl => ?_)
    refine lv_aload_n hx hb dX6_bestRowsOf_16 rfl (lv_at hl 0 rfl) ?_
    refine lv_iload_n hx hb dX6_bestRowsOf_17 rfl (lv_at hl 2 rfl) ?_
    refine q_aald hx hb hK hP 1 5 rfl rfl (n) (by omega) (by omega) (by omega) dX6_bestRowsOf_18 ?_
    refine q_none (hs) ?_
    refine lv_ifnonnullN hx hb dX6_bestRowsOf_19 ?_
    refine lv_aload_n hx hb dX6_bestRowsOf_22 rfl (lv_at hl 0 rfl) ?_
    refine lv_iload_n hx hb dX6_bestRowsOf_23 rfl (lv_at hl 2 rfl) ?_
    refine va_new (ci := 2) (fs := [.int (zI (0)), .int (zI (0)), .int (zI (0)), .int (zI (0))]) (C := RX0) (T := TX0) (N := 4) hx hb hts iX0 tyX0 tyX0_ok hown (hts (.classLink RX6 29 RX0) (by decide +kernel)) (hts (.instantiable RX0 4) (by decide +kernel)) (hts (.initialized RX0) (by decide +kernel)) hK hP hD hS hA rfl (fun j hj => by rcases (show j = 0 ∨ j = 1 ∨ j = 2 ∨ j = 3 by omega) with rfl | rfl | rfl | rfl <;> rfl) (Nat.le_of_ble_eq_true rfl) (Nat.le_of_ble_eq_true rfl) dX6_bestRowsOf_24 (fun q24 H hP hD hS => ?_)
    have hP : va_P D vwCl [oX x a (((R : Nat) : Int)), aQ t 5 (a 4) 15 (pa), (q24, .inr (2, [.int (zI (0)), .int (zI (0)), .int (zI (0)), .int (zI (0))]))] H := hP
    have hD : va_D AA [oX x a (((R : Nat) : Int)), aQ t 5 (a 4) 15 (pa), (q24, .inr (2, [.int (zI (0)), .int (zI (0)), .int (zI (0)), .int (zI (0))]))] := hD
    refine W.widen (k := 1) (n := 4) (by omega) (by omega) ?_
    refine lv_dup hx hb dX6_bestRowsOf_27 rfl ?_
    refine lv_iload_n hx hb dX6_bestRowsOf_28 rfl (lv_at hl 2 rfl) ?_
    refine lv_iload_n hx hb dX6_bestRowsOf_29 rfl (lv_at hl 3 rfl) ?_
    have hPc := hP.sub (ws' := [(q24, .inr (2, [.int (zI (0)), .int (zI (0)), .int (zI (0)), .int (zI (0))]))]) [2] rfl
    have hDc := hD.sub (ws' := [(q24, .inr (2, [.int (zI (0)), .int (zI (0)), .int (zI (0)), .int (zI (0))]))]) [2] (by decide) rfl
    have hFc := va_free (wc := [(q24, .inr (2, [.int (zI (0)), .int (zI (0)), .int (zI (0)), .int (zI (0))]))]) hD hS hA [2] rfl
    refine va_callv (va_runI (As := [.int (zI (n)), .int (zI (0))]) (rest := [.ref q24, .int (zI (n)), .ref (a 4)]) ⟨hx, hb, hml, hown, hts⟩ (c_X0_init l D t H.size q24 n 0 gn (by decide)) (cwI 2 hts gX6_bestRowsOf_X0_init rfl rfl rfl (hts (.initialized RX0) (by decide +kernel)) (hts (.methodLink RX6 198 yX0_init) (by decide +kernel)) (hts (.instanceMethod yX0_init) (by decide +kernel)) rfl (by decide +kernel) ⟨Nat.le_of_ble_eq_true rfl, Nat.le_of_ble_eq_true rfl⟩) ⟨fun a U g mk q => by obtain ⟨q0, q1, qP, qK, qD⟩ := q; exact ⟨q0, q1, qP, va_K.moved (u := U) (U := U.calling g mk a) (Vm.Alike.refl U.vm) qK, qD⟩, fun U hU hW => ⟨rfl, by rw [hU], by rw [hU]; exact hPc, va_K.moved hW.alike hK, hDc.weaken (fun _ _ _ _ => trivial)⟩⟩ rfl rfl hl.1 rfl (lv_room (Nat.le_of_ble_eq_true rfl)) dX6_bestRowsOf_30 ⟨Nat.le_of_ble_eq_true rfl, Nat.le_of_ble_eq_true rfl⟩) hS (fun q _ h => hFc q h) hFc (fun u tq H1 locs ht hvm hr30 hB hz1 hk1 hS => ?_)
    obtain ⟨hP1, hK1, hD1⟩ := hB
    rw [ht] at hP1
    obtain ⟨hP, hD⟩ := va_join (wr := [oX x a (((R : Nat) : Int)), aQ t 5 (a 4) 15 (pa)]) (w1 := [(q24, .inr (2, [.int (zI ((bv n 0).1)), .int (zI ((((bv n 0).2.1 : Nat) : Int))), .int (zI ((((bv n 0).2.2.1 : Nat) : Int))), .int (zI ((((bv n 0).2.2.2 : Nat) : Int)))]))]) hP hD [2] [0, 1] rfl rfl (by decide) (by decide) hk1 hFc hP1 hD1
    generalize H1 = H at hP hS ⊢
    have hP : va_P D vwCl [oX x a (((R : Nat) : Int)), aQ t 5 (a 4) 15 (pa), (q24, .inr (2, [.int (zI ((bv n 0).1)), .int (zI ((((bv n 0).2.1 : Nat) : Int))), .int (zI ((((bv n 0).2.2.1 : Nat) : Int))), .int (zI ((((bv n 0).2.2.2 : Nat) : Int)))]))] H := hP
    have hD : va_D AA [oX x a (((R : Nat) : Int)), aQ t 5 (a 4) 15 (pa), (q24, .inr (2, [.int (zI ((bv n 0).1)), .int (zI ((((bv n 0).2.1 : Nat) : Int))), .int (zI ((((bv n 0).2.2.1 : Nat) : Int))), .int (zI ((((bv n 0).2.2.2 : Nat) : Int)))]))] := hD
    try dsimp only at hr30
    refine q_aast hx hb hK hP hD hS 1 5 2 2 rfl rfl rfl rfl (n) (by omega) (by omega) (by omega) dX6_bestRowsOf_33 (fun H locs hP hD hS => ?_)
    have hP : va_P D vwCl [oX x a (((R : Nat) : Int)), aQ t 5 (a 4) 15 (va_up (pa) (n) (some (q24))), (q24, .inr (2, [.int (zI ((bv n 0).1)), .int (zI ((((bv n 0).2.1 : Nat) : Int))), .int (zI ((((bv n 0).2.2.1 : Nat) : Int))), .int (zI ((((bv n 0).2.2.2 : Nat) : Int)))]))] H := hP
    have hD : va_D AA [oX x a (((R : Nat) : Int)), aQ t 5 (a 4) 15 (va_up (pa) (n) (some (q24))), (q24, .inr (2, [.int (zI ((bv n 0).1)), .int (zI ((((bv n 0).2.1 : Nat) : Int))), .int (zI ((((bv n 0).2.2.1 : Nat) : Int))), .int (zI ((((bv n 0).2.2.2 : Nat) : Int)))]))] := hD
    refine lv_aload_n hx hb dX6_bestRowsOf_34 rfl (lv_at hl 0 rfl) ?_
    refine lv_iload_n hx hb dX6_bestRowsOf_35 rfl (lv_at hl 2 rfl) ?_
    refine q_aald hx hb hK hP 1 5 rfl rfl (n) (by omega) (by omega) (by omega) dX6_bestRowsOf_36 ?_
    refine q_some (x := q24) (by rw [va_up, if_pos rfl]) ?_
    have hP := hP.sub (ws' := [oX x a (((R : Nat) : Int)), aQ t 5 (a 4) 15 (va_up pa n (some q24)), (q24, .inr (2, [.int (zI ((bv n 0).1)), .int (zI ((((bv n 0).2.1 : Nat) : Int))), .int (zI ((((bv n 0).2.2.1 : Nat) : Int))), .int (zI ((((bv n 0).2.2.2 : Nat) : Int)))]))]) [0, 1, 2] rfl
    have hD := hD.sub (ws' := [oX x a (((R : Nat) : Int)), aQ t 5 (a 4) 15 (va_up pa n (some q24)), (q24, .inr (2, [.int (zI ((bv n 0).1)), .int (zI ((((bv n 0).2.1 : Nat) : Int))), .int (zI ((((bv n 0).2.2.1 : Nat) : Int))), .int (zI ((((bv n 0).2.2.2 : Nat) : Int)))]))]) [0, 1, 2] (by decide) rfl
    exact W.aret (v := .ref q24) hx hb hr (by first | exact Or.inl ⟨_, rfl⟩ | exact Or.inr ⟨_, rfl⟩) (Or.inr ⟨_, rfl⟩) (fun tq ht hW => ⟨⟨(), _, rfl, trivial, by rw [ht]; exact hP, va_K.moved hW.alike hK, hD⟩, hS.F ht⟩) hS.2.2 dX6_bestRowsOf_37

-- bestRowsOf, way 1, known
set_option maxHeartbeats 4000000 in
set_option maxRecDepth 100000 in
theorem c_X6_bestRowsOf_1s (l : Launch) (D : va_G) (t : Nat → ClassId) (x : Nat) (a : Nat → Nat) (R : Nat) (pa : Nat → Option Nat) (q : Nat) (n : Nat) (gn : 1 ≤ n ∧ n ≤ 14) (hs : pa n = some q) : Met l yX6_bestRowsOf wsX6_bestRowsOf ({ frames := 0, cells := 0, slots := 0, locals := 0 }) (va_Pc [.ref x, .int (zI (n)), .int (zI (1))] (fun U => va_P D vwCl ([oX x a (((R : Nat) : Int)), aQ t 5 (a 5) 15 (pa)]) U.heap ∧ va_K D vwCl (TY t) U)) (va_Sq (fun r => r = some q)) 0 0 (fun _ => False) := by
  refine Met.ofW (cc := cX6_bestRowsOf) (maxL := 4) (ret := (some (.object "CancelRows$BestRows"))) (by decide) rfl ?_
  intro p e s m args below meth c s₁ B hml hv
  obtain ⟨rfl, hP, hK⟩ := hv
  have hx := B.exec
  have hb := B.bytes
  have hr := B.returns
  have hts := atoms_spec (ws := wsX6_bestRowsOf) B.pre
  have hown : s.vm.findClass RX6 = some m.cls := findClass_of_methodNamed B.named
  have hlocks := B.notSynchronized
  have hl := lv_entry ([.ref x, .int (zI (n)), .int (zI (1))]) (n := 4) (Nat.le_of_ble_eq_true rfl)
  rw [lg_entry_eq]
  generalize (lg_sl ([.ref x, .int (zI (n)), .int (zI (1))]) ++ List.replicate (4 - (lg_sl ([.ref x, .int (zI (n)), .int (zI (1))])).length) Slot.unset).toArray = ls at hl ⊢
  have hl : lv_has ls 4 [(0, .ref x), (1, .int (zI (n))), (2, .int (zI (1)))] := hl
  have iX6 : ∀ w ∈ u_ws RX6 TX6 7, w ∈ wsX6_bestRowsOf := by decide +kernel
  refine lv_iload_n hx hb dX6_bestRowsOf_0 rfl (lv_at hl 2 rfl) ?_
  refine z_if_ne (tgt := 11) hx hb dX6_bestRowsOf_1 (by decide) (by omega) (fun c1 => ?_) (fun c1 => ?_)
  · refine lv_aload_n hx hb dX6_bestRowsOf_11 rfl (lv_at hl 0 rfl) ?_
    refine va_get (D := D) (ci := 5) (v := .ref (a 5)) (C := RX6) (T := TX6) (N := 7) hx hb hts iX6 hown hK hP 0 rfl rfl 5 (by decide) (hts (.fieldLink RX6 35 "CancelRows" "bestByEnergy" "[LCancelRows$BestRows;") (by decide +kernel)) (fun _ h9 => h9) rfl dX6_bestRowsOf_12 ?_
    refine lv_astore_n (lv' := [(3, .ref (a 5)), (0, .ref x), (1, .int (zI (n))), (2, .int (zI (1)))]) hx hb dX6_bestRowsOf_15 rfl hl (by decide) rfl (fun ls hl => ?_)
    refine lv_aload_n hx hb dX6_bestRowsOf_16 rfl (lv_at hl 0 rfl) ?_
    refine lv_iload_n hx hb dX6_bestRowsOf_17 rfl (lv_at hl 2 rfl) ?_
    refine q_aald hx hb hK hP 1 5 rfl rfl (n) (by omega) (by omega) (by omega) dX6_bestRowsOf_18 ?_
    refine q_some (x := q) (hs) ?_
    refine lv_ifnonnull (tgt := 34) hx hb dX6_bestRowsOf_19 (by decide) ?_
    refine lv_aload_n hx hb dX6_bestRowsOf_34 rfl (lv_at hl 0 rfl) ?_
    refine lv_iload_n hx hb dX6_bestRowsOf_35 rfl (lv_at hl 2 rfl) ?_
    refine q_aald hx hb hK hP 1 5 rfl rfl (n) (by omega) (by omega) (by omega) dX6_bestRowsOf_36 ?_
    refine q_some (x := q) (hs) ?_
    exact W.aret (v := .ref q) hx hb hr (by first | exact Or.inl ⟨_, rfl⟩ | exact Or.inr ⟨_, rfl⟩) (Or.inr ⟨_, rfl⟩) (fun tq ht hW => ⟨some (q), rfl, rfl, ht⟩) (fun q h => by cases h) dX6_bestRowsOf_37
  · exact absurd c1 (by decide)

-- bestRowsOf, way 1, new
set_option maxHeartbeats 4000000 in
set_option maxRecDepth 100000 in
theorem c_X6_bestRowsOf_1n (l : Launch) (D : va_G) (t : Nat → ClassId) (sz : Nat) (x : Nat) (a : Nat → Nat) (R : Nat) (pa : Nat → Option Nat) (n : Nat) (gn : 1 ≤ n ∧ n ≤ 14) (hs : pa n = none) : Met l yX6_bestRowsOf wsX6_bestRowsOf ({ frames := 5, cells := 1, slots := 4, locals := 118 }) (va_Pc [.ref x, .int (zI (n)), .int (zI (1))] (fun U => U.heap.size = sz ∧ va_P D vwCl ([oX x a (((R : Nat) : Int)), aQ t 5 (a 5) 15 (pa)]) U.heap ∧ va_K D vwCl (TY t) U ∧ va_D (fun _ => True) ([oX x a (((R : Nat) : Int)), aQ t 5 (a 5) 15 (pa)]))) (va_Qr (fun (u : Unit) => True) (fun (u : Unit) (r : Nat) t1 => va_P D vwCl ([oX x a (((R : Nat) : Int)), aQ t 5 (a 5) 15 (va_up pa n (some r)), (r, .inr (2, [.int (zI ((bv n 1).1)), .int (zI ((((bv n 1).2.1 : Nat) : Int))), .int (zI ((((bv n 1).2.2.1 : Nat) : Int))), .int (zI ((((bv n 1).2.2.2 : Nat) : Int)))]))]) t1.heap ∧ va_K D vwCl (TY t) t1 ∧ va_D (va_A ([oX x a (((R : Nat) : Int)), aQ t 5 (a 5) 15 (pa)]) sz) ([oX x a (((R : Nat) : Int)), aQ t 5 (a 5) 15 (va_up pa n (some r)), (r, .inr (2, [.int (zI ((bv n 1).1)), .int (zI ((((bv n 1).2.1 : Nat) : Int))), .int (zI ((((bv n 1).2.2.1 : Nat) : Int))), .int (zI ((((bv n 1).2.2.2 : Nat) : Int)))]))])) (va_A ([oX x a (((R : Nat) : Int)), aQ t 5 (a 5) 15 (pa)]) sz)) 1 4 (va_A ([oX x a (((R : Nat) : Int)), aQ t 5 (a 5) 15 (pa)]) sz) := by
  refine Met.ofW (cc := cX6_bestRowsOf) (maxL := 4) (ret := (some (.object "CancelRows$BestRows"))) (by decide) rfl ?_
  intro p e s m args below meth c s₁ B hml hv
  obtain ⟨rfl, hsz, hP, hK, hD0⟩ := hv
  have hx := B.exec
  have hb := B.bytes
  have hr := B.returns
  have hts := atoms_spec (ws := wsX6_bestRowsOf) B.pre
  have hown : s.vm.findClass RX6 = some m.cls := findClass_of_methodNamed B.named
  have hlocks := B.notSynchronized
  subst hsz
  have hD := hD0.self (sz := s.heap.size)
  generalize hAe : va_A ([oX x a (((R : Nat) : Int)), aQ t 5 (a 5) 15 (pa)]) s.heap.size = AA at hD ⊢
  have hA : ∀ q : Nat, s.heap.size ≤ q → AA q := fun q h => by rw [← hAe]; exact Or.inr h
  have hS : va_S AA s.heap s.heap [] := va_S.rf
  have hP : va_P D vwCl ([oX x a (((R : Nat) : Int)), aQ t 5 (a 5) 15 (pa)]) s.heap := hP
  have hl := lv_entry ([.ref x, .int (zI (n)), .int (zI (1))]) (n := 4) (Nat.le_of_ble_eq_true rfl)
  rw [lg_entry_eq]
  generalize (lg_sl ([.ref x, .int (zI (n)), .int (zI (1))]) ++ List.replicate (4 - (lg_sl ([.ref x, .int (zI (n)), .int (zI (1))])).length) Slot.unset).toArray = ls at hl ⊢
  have hl : lv_has ls 4 [(0, .ref x), (1, .int (zI (n))), (2, .int (zI (1)))] := hl
  have iX0 : ∀ w ∈ u_ws RX0 TX0 4, w ∈ wsX6_bestRowsOf := by decide +kernel
  have iX6 : ∀ w ∈ u_ws RX6 TX6 7, w ∈ wsX6_bestRowsOf := by decide +kernel
  refine lv_iload_n hx hb dX6_bestRowsOf_0 rfl (lv_at hl 2 rfl) ?_
  refine z_if_ne (tgt := 11) hx hb dX6_bestRowsOf_1 (by decide) (by omega) (fun c1 => ?_) (fun c1 => ?_)
  · refine lv_aload_n hx hb dX6_bestRowsOf_11 rfl (lv_at hl 0 rfl) ?_
    refine va_get (D := D) (ci := 5) (v := .ref (a 5)) (C := RX6) (T := TX6) (N := 7) hx hb hts iX6 hown hK hP 0 rfl rfl 5 (by decide) (hts (.fieldLink RX6 35 "CancelRows" "bestByEnergy" "[LCancelRows$BestRows;") (by decide +kernel)) (fun _ h9 => h9) rfl dX6_bestRowsOf_12 ?_
    refine lv_astore_n (lv' := [(3, .ref (a 5)), (0, .ref x), (1, .int (zI (n))), (2, .int (zI (1)))]) hx hb dX6_bestRowsOf_15 rfl hl (by decide) rfl (fun ls hl => ?_)
    refine lv_aload_n hx hb dX6_bestRowsOf_16 rfl (lv_at hl 0 rfl) ?_
    refine lv_iload_n hx hb dX6_bestRowsOf_17 rfl (lv_at hl 2 rfl) ?_
    refine q_aald hx hb hK hP 1 5 rfl rfl (n) (by omega) (by omega) (by omega) dX6_bestRowsOf_18 ?_
    refine q_none (hs) ?_
    refine lv_ifnonnullN hx hb dX6_bestRowsOf_19 ?_
    refine lv_aload_n hx hb dX6_bestRowsOf_22 rfl (lv_at hl 0 rfl) ?_
    refine lv_iload_n hx hb dX6_bestRowsOf_23 rfl (lv_at hl 2 rfl) ?_
    refine va_new (ci := 2) (fs := [.int (zI (0)), .int (zI (0)), .int (zI (0)), .int (zI (0))]) (C := RX0) (T := TX0) (N := 4) hx hb hts iX0 tyX0 tyX0_ok hown (hts (.classLink RX6 29 RX0) (by decide +kernel)) (hts (.instantiable RX0 4) (by decide +kernel)) (hts (.initialized RX0) (by decide +kernel)) hK hP hD hS hA rfl (fun j hj => by rcases (show j = 0 ∨ j = 1 ∨ j = 2 ∨ j = 3 by omega) with rfl | rfl | rfl | rfl <;> rfl) (Nat.le_of_ble_eq_true rfl) (Nat.le_of_ble_eq_true rfl) dX6_bestRowsOf_24 (fun q24 H hP hD hS => ?_)
    have hP : va_P D vwCl [oX x a (((R : Nat) : Int)), aQ t 5 (a 5) 15 (pa), (q24, .inr (2, [.int (zI (0)), .int (zI (0)), .int (zI (0)), .int (zI (0))]))] H := hP
    have hD : va_D AA [oX x a (((R : Nat) : Int)), aQ t 5 (a 5) 15 (pa), (q24, .inr (2, [.int (zI (0)), .int (zI (0)), .int (zI (0)), .int (zI (0))]))] := hD
    refine W.widen (k := 1) (n := 4) (by omega) (by omega) ?_
    refine lv_dup hx hb dX6_bestRowsOf_27 rfl ?_
    refine lv_iload_n hx hb dX6_bestRowsOf_28 rfl (lv_at hl 2 rfl) ?_
    refine lv_iload_n hx hb dX6_bestRowsOf_29 rfl (lv_at hl 3 rfl) ?_
    have hPc := hP.sub (ws' := [(q24, .inr (2, [.int (zI (0)), .int (zI (0)), .int (zI (0)), .int (zI (0))]))]) [2] rfl
    have hDc := hD.sub (ws' := [(q24, .inr (2, [.int (zI (0)), .int (zI (0)), .int (zI (0)), .int (zI (0))]))]) [2] (by decide) rfl
    have hFc := va_free (wc := [(q24, .inr (2, [.int (zI (0)), .int (zI (0)), .int (zI (0)), .int (zI (0))]))]) hD hS hA [2] rfl
    refine va_callv (va_runI (As := [.int (zI (n)), .int (zI (1))]) (rest := [.ref q24, .int (zI (n)), .ref (a 5)]) ⟨hx, hb, hml, hown, hts⟩ (c_X0_init l D t H.size q24 n 1 gn (by decide)) (cwI 2 hts gX6_bestRowsOf_X0_init rfl rfl rfl (hts (.initialized RX0) (by decide +kernel)) (hts (.methodLink RX6 198 yX0_init) (by decide +kernel)) (hts (.instanceMethod yX0_init) (by decide +kernel)) rfl (by decide +kernel) ⟨Nat.le_of_ble_eq_true rfl, Nat.le_of_ble_eq_true rfl⟩) ⟨fun a U g mk q => by obtain ⟨q0, q1, qP, qK, qD⟩ := q; exact ⟨q0, q1, qP, va_K.moved (u := U) (U := U.calling g mk a) (Vm.Alike.refl U.vm) qK, qD⟩, fun U hU hW => ⟨rfl, by rw [hU], by rw [hU]; exact hPc, va_K.moved hW.alike hK, hDc.weaken (fun _ _ _ _ => trivial)⟩⟩ rfl rfl hl.1 rfl (lv_room (Nat.le_of_ble_eq_true rfl)) dX6_bestRowsOf_30 ⟨Nat.le_of_ble_eq_true rfl, Nat.le_of_ble_eq_true rfl⟩) hS (fun q _ h => hFc q h) hFc (fun u tq H1 locs ht hvm hr30 hB hz1 hk1 hS => ?_)
    obtain ⟨hP1, hK1, hD1⟩ := hB
    rw [ht] at hP1
    obtain ⟨hP, hD⟩ := va_join (wr := [oX x a (((R : Nat) : Int)), aQ t 5 (a 5) 15 (pa)]) (w1 := [(q24, .inr (2, [.int (zI ((bv n 1).1)), .int (zI ((((bv n 1).2.1 : Nat) : Int))), .int (zI ((((bv n 1).2.2.1 : Nat) : Int))), .int (zI ((((bv n 1).2.2.2 : Nat) : Int)))]))]) hP hD [2] [0, 1] rfl rfl (by decide) (by decide) hk1 hFc hP1 hD1
    generalize H1 = H at hP hS ⊢
    have hP : va_P D vwCl [oX x a (((R : Nat) : Int)), aQ t 5 (a 5) 15 (pa), (q24, .inr (2, [.int (zI ((bv n 1).1)), .int (zI ((((bv n 1).2.1 : Nat) : Int))), .int (zI ((((bv n 1).2.2.1 : Nat) : Int))), .int (zI ((((bv n 1).2.2.2 : Nat) : Int)))]))] H := hP
    have hD : va_D AA [oX x a (((R : Nat) : Int)), aQ t 5 (a 5) 15 (pa), (q24, .inr (2, [.int (zI ((bv n 1).1)), .int (zI ((((bv n 1).2.1 : Nat) : Int))), .int (zI ((((bv n 1).2.2.1 : Nat) : Int))), .int (zI ((((bv n 1).2.2.2 : Nat) : Int)))]))] := hD
    try dsimp only at hr30
    refine q_aast hx hb hK hP hD hS 1 5 2 2 rfl rfl rfl rfl (n) (by omega) (by omega) (by omega) dX6_bestRowsOf_33 (fun H locs hP hD hS => ?_)
    have hP : va_P D vwCl [oX x a (((R : Nat) : Int)), aQ t 5 (a 5) 15 (va_up (pa) (n) (some (q24))), (q24, .inr (2, [.int (zI ((bv n 1).1)), .int (zI ((((bv n 1).2.1 : Nat) : Int))), .int (zI ((((bv n 1).2.2.1 : Nat) : Int))), .int (zI ((((bv n 1).2.2.2 : Nat) : Int)))]))] H := hP
    have hD : va_D AA [oX x a (((R : Nat) : Int)), aQ t 5 (a 5) 15 (va_up (pa) (n) (some (q24))), (q24, .inr (2, [.int (zI ((bv n 1).1)), .int (zI ((((bv n 1).2.1 : Nat) : Int))), .int (zI ((((bv n 1).2.2.1 : Nat) : Int))), .int (zI ((((bv n 1).2.2.2 : Nat) : Int)))]))] := hD
    refine lv_aload_n hx hb dX6_bestRowsOf_34 rfl (lv_at hl 0 rfl) ?_
    refine lv_iload_n hx hb dX6_bestRowsOf_35 rfl (lv_at hl 2 rfl) ?_
    refine q_aald hx hb hK hP 1 5 rfl rfl (n) (by omega) (by omega) (by omega) dX6_bestRowsOf_36 ?_
    refine q_some (x := q24) (by rw [va_up, if_pos rfl]) ?_
    have hP := hP.sub (ws' := [oX x a (((R : Nat) : Int)), aQ t 5 (a 5) 15 (va_up pa n (some q24)), (q24, .inr (2, [.int (zI ((bv n 1).1)), .int (zI ((((bv n 1).2.1 : Nat) : Int))), .int (zI ((((bv n 1).2.2.1 : Nat) : Int))), .int (zI ((((bv n 1).2.2.2 : Nat) : Int)))]))]) [0, 1, 2] rfl
    have hD := hD.sub (ws' := [oX x a (((R : Nat) : Int)), aQ t 5 (a 5) 15 (va_up pa n (some q24)), (q24, .inr (2, [.int (zI ((bv n 1).1)), .int (zI ((((bv n 1).2.1 : Nat) : Int))), .int (zI ((((bv n 1).2.2.1 : Nat) : Int))), .int (zI ((((bv n 1).2.2.2 : Nat) : Int)))]))]) [0, 1, 2] (by decide) rfl
    exact W.aret (v := .ref q24) hx hb hr (by first | exact Or.inl ⟨_, rfl⟩ | exact Or.inr ⟨_, rfl⟩) (Or.inr ⟨_, rfl⟩) (fun tq ht hW => ⟨⟨(), _, rfl, trivial, by rw [ht]; exact hP, va_K.moved hW.alike hK, hD⟩, hS.F ht⟩) hS.2.2 dX6_bestRowsOf_37
  · exact absurd c1 (by decide)
