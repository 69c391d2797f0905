/-! the check: pairs, pair -/
def pK (kn pm0 lm : Int) (Pr Lr : Nat → Int) : Prop := kn = -4 ∨ (1 ≤ kn ∧ kn ≤ 8 ∧ pOK kn.toNat pm0 lm Pr Lr)
theorem pK_k {kn pm0 lm : Int} {Pr Lr : Nat → Int} (h : pK kn pm0 lm Pr Lr) : kn = -4 ∨ (1 ≤ kn ∧ kn ≤ 8) := h.imp_right (fun z => ⟨z.1, z.2.1⟩)
theorem pK_n {kn pm0 lm : Int} {Pr Lr : Nat → Int} (h : pK kn pm0 lm Pr Lr) {n : Nat} (hk : kn = (n : Int)) : pOK n pm0 lm Pr Lr := by
  subst hk
  rcases h with h | h
  · omega
  · exact h.2.2
theorem pK_of {n : Int} {pm0 lm : Int} {Pr Lr : Nat → Int} (h1 : 1 ≤ n ∧ n ≤ 8) (h : pOK n.toNat pm0 lm Pr Lr) : pK ((n.toNat : Nat) : Int) pm0 lm Pr Lr := Or.inr ⟨by omega, by omega, h⟩
-- the check: pairs
set_option maxHeartbeats 4000000 in
set_option maxRecDepth 100000 in
theorem c_X7_pairs (l : Launch) (D : va_G) (t : Nat → ClassId) (sz : Nat) (y : Nat) (b : Nat → Nat) (R : Nat) (fm1 kn pm0 lm : Int) (Pr Lr Sm : Nat → Int) (gP : pK kn pm0 lm Pr Lr) (n what : Int) (gn : -2147483648 ≤ n ∧ n < 2147483648) (gwhat : -2147483648 ≤ what ∧ what < 2147483648) : Met l yX7_pairs wsX7_pairs ({ frames := 4, cells := 0, slots := 0, locals := 107 }) (va_Pc [.ref y, .int (zI (n)), .int (zI (what))] (fun U => U.heap.size = sz ∧ va_P D vwCl ([oM y b (((R : Nat) : Int)) (fm1) (kn) (pm0) (lm), aI t (b 6) 6000 (Pr), aI t (b 7) 600 (Lr), aI t (b 8) 2048 (Sm)]) U.heap ∧ va_K D vwCl (TY t) U ∧ va_D (fun _ => True) ([oM y b (((R : Nat) : Int)) (fm1) (kn) (pm0) (lm), aI t (b 6) 6000 (Pr), aI t (b 7) 600 (Lr), aI t (b 8) 2048 (Sm)]))) (va_Qi (fun r (u : Int × Int × Int × (Nat → Int) × (Nat → Int) × (Nat → Int)) => r = zI (sp_pairs n what) ∧ pK u.1 u.2.1 u.2.2.1 u.2.2.2.1 u.2.2.2.2.1) (fun (u : Int × Int × Int × (Nat → Int) × (Nat → Int) × (Nat → Int)) t1 => va_P D vwCl ([oM y b (((R : Nat) : Int)) (fm1) (u.1) (u.2.1) (u.2.2.1), aI t (b 6) 6000 (u.2.2.2.1), aI t (b 7) 600 (u.2.2.2.2.1), aI t (b 8) 2048 (u.2.2.2.2.2)]) t1.heap ∧ va_K D vwCl (TY t) t1 ∧ va_D (va_A ([oM y b (((R : Nat) : Int)) (fm1) (kn) (pm0) (lm), aI t (b 6) 6000 (Pr), aI t (b 7) 600 (Lr), aI t (b 8) 2048 (Sm)]) sz) ([oM y b (((R : Nat) : Int)) (fm1) (u.1) (u.2.1) (u.2.2.1), aI t (b 6) 6000 (u.2.2.2.1), aI t (b 7) 600 (u.2.2.2.2.1), aI t (b 8) 2048 (u.2.2.2.2.2)])) (va_A ([oM y b (((R : Nat) : Int)) (fm1) (kn) (pm0) (lm), aI t (b 6) 6000 (Pr), aI t (b 7) 600 (Lr), aI t (b 8) 2048 (Sm)]) sz)) 0 0 (va_A ([oM y b (((R : Nat) : Int)) (fm1) (kn) (pm0) (lm), aI t (b 6) 6000 (Pr), aI t (b 7) 600 (Lr), aI t (b 8) 2048 (Sm)]) sz) := by
  refine Met.ofW (cc := cX7_pairs) (maxL := 3) (ret := (some .int)) (by decide) rfl ?_
  intro p e s m args below meth c s₁ B hml hv
  obtain ⟨rfl, hsz, hP, hK, hD0⟩ := hv
  have hx := B.exec
  have hb := B.bytes
  have hr := B.returns
  have hts := atoms_spec (ws := wsX7_pairs) B.pre
  have hown : s.vm.findClass RX7 = some m.cls := findClass_of_methodNamed B.named
  have hlocks := B.notSynchronized
  subst hsz
  have hD := hD0.self (sz := s.heap.size)
  generalize hAe : va_A ([oM y b (((R : Nat) : Int)) (fm1) (kn) (pm0) (lm), aI t (b 6) 6000 (Pr), aI t (b 7) 600 (Lr), aI t (b 8) 2048 (Sm)]) s.heap.size = AA at hD ⊢
  have hA : ∀ q : Nat, s.heap.size ≤ q → AA q := fun q h => by rw [← hAe]; exact Or.inr h
  have hS : va_S AA s.heap s.heap [] := va_S.rf
  have hP : va_P D vwCl ([oM y b (((R : Nat) : Int)) (fm1) (kn) (pm0) (lm), aI t (b 6) 6000 (Pr), aI t (b 7) 600 (Lr), aI t (b 8) 2048 (Sm)]) s.heap := hP
  have hl := lv_entry ([.ref y, .int (zI (n)), .int (zI (what))]) (n := 3) (Nat.le_of_ble_eq_true rfl)
  rw [lg_entry_eq]
  generalize (lg_sl ([.ref y, .int (zI (n)), .int (zI (what))]) ++ List.replicate (3 - (lg_sl ([.ref y, .int (zI (n)), .int (zI (what))])).length) Slot.unset).toArray = ls at hl ⊢
  have hl : lv_has ls 3 [(0, .ref y), (1, .int (zI (n))), (2, .int (zI (what)))] := hl
  have iX7 : ∀ w ∈ u_ws RX7 TX7 16, w ∈ wsX7_pairs := by decide +kernel
  refine lv_iload_n hx hb dX7_pairs_0 rfl (lv_at hl 1 rfl) ?_
  refine z_i2l hx hb (by omega) dX7_pairs_1 ?_
  refine lv_lconst (v := lN 1) hx hb dX7_pairs_2 rfl ?_
  refine lv_ldc2 (v := lN 8) hx hb hown (hts (.constantLong RX7 150 (lN 8)) (by decide +kernel)) dX7_pairs_3 ?_
  refine vp_callSi (va_runS (As := [.long (zL (n)), .long (lN (1)), .long (lN (8))]) (rest := []) ⟨hx, hb, hml, hown, hts⟩ (c_X7_in l _ _ _) (va_cwS 3 hts gX7_pairs_X7_in rfl rfl rfl (by decide +kernel) ⟨Nat.le_of_ble_eq_true rfl, Nat.le_of_ble_eq_true rfl⟩) ⟨fun a U g mk q => q, fun U hU hW => ⟨rfl, trivial⟩⟩ rfl rfl hl.1 rfl (lv_room (Nat.le_of_ble_eq_true rfl)) dX7_pairs_6 ⟨Nat.le_of_ble_eq_true rfl, Nat.le_of_ble_eq_true rfl⟩).run (fun r hr6 => ?_)
  have hq6 : r = zI (bP (((1 : Nat) : Int) ≤ n ∧ n ≤ ((8 : Nat) : Int))) := by rw [hr6]; exact congrArg zI (bP_cg (by simp only [zL_toInt (e := n) (by omega), lN_toI (n := 1) (by omega), lN_toI (n := 8) (by omega)]))
  obtain rfl := hq6
  refine z_ifb_eq (P := ((1 : Nat) : Int) ≤ n ∧ n ≤ ((8 : Nat) : Int)) (tgt := 24) hx hb dX7_pairs_9 (by decide) (fun c9 => ?_) (fun c9 => ?_)
  · refine lv_iconst (v := zI (-1)) hx hb dX7_pairs_24 rfl ?_
    exact W.iret (v := (zI ((-1)))) hx hb hr (fun tq ht hW => ⟨⟨_, (kn, pm0, lm, Pr, Lr, Sm), rfl, ⟨by rw [sp_pairs, if_neg (fun z => by omega)], gP⟩, by rw [ht]; exact hP, va_K.moved hW.alike hK, hD⟩, hS.F ht⟩) hS.2.2 dX7_pairs_25
  · refine lv_iload_n hx hb dX7_pairs_12 rfl (lv_at hl 2 rfl) ?_
    refine z_i2l hx hb (by omega) dX7_pairs_13 ?_
    refine lv_lconst (v := lN 0) hx hb dX7_pairs_14 rfl ?_
    refine lv_ldc2 (v := lN 3) hx hb hown (hts (.constantLong RX7 62 (lN 3)) (by decide +kernel)) dX7_pairs_15 ?_
    refine vp_callSi (va_runS (As := [.long (zL (what)), .long (lN (0)), .long (lN (3))]) (rest := []) ⟨hx, hb, hml, hown, hts⟩ (c_X7_in l _ _ _) (va_cwS 3 hts gX7_pairs_X7_in rfl rfl rfl (by decide +kernel) ⟨Nat.le_of_ble_eq_true rfl, Nat.le_of_ble_eq_true rfl⟩) ⟨fun a U g mk q => q, fun U hU hW => ⟨rfl, trivial⟩⟩ rfl rfl hl.1 rfl (lv_room (Nat.le_of_ble_eq_true rfl)) dX7_pairs_18 ⟨Nat.le_of_ble_eq_true rfl, Nat.le_of_ble_eq_true rfl⟩).run (fun r hr18 => ?_)
    have hq18 : r = zI (bP (((0 : Nat) : Int) ≤ what ∧ what ≤ ((3 : Nat) : Int))) := by rw [hr18]; exact congrArg zI (bP_cg (by simp only [zL_toInt (e := what) (by omega), lN_toI (n := 0) (by omega), lN_toI (n := 3) (by omega)]))
    obtain rfl := hq18
    refine z_ifb_ne (P := ((0 : Nat) : Int) ≤ what ∧ what ≤ ((3 : Nat) : Int)) (tgt := 26) hx hb dX7_pairs_21 (by decide) (fun c21 => ?_) (fun c21 => ?_)
    · refine lv_aload_n hx hb dX7_pairs_26 rfl (lv_at hl 0 rfl) ?_
      refine lv_iload_n hx hb dX7_pairs_27 rfl (lv_at hl 1 rfl) ?_
      refine z_re (e2 := ((n.toNat : Nat) : Int)) (by omega) ?_
      have hPc := hP.sub (ws' := [oM y b (((R : Nat) : Int)) (fm1) (kn) (pm0) (lm), aI t (b 6) 6000 (Pr), aI t (b 7) 600 (Lr), aI t (b 8) 2048 (Sm)]) [0, 1, 2, 3] rfl
      have hDc := hD.sub (ws' := [oM y b (((R : Nat) : Int)) (fm1) (kn) (pm0) (lm), aI t (b 6) 6000 (Pr), aI t (b 7) 600 (Lr), aI t (b 8) 2048 (Sm)]) [0, 1, 2, 3] (by decide) rfl
      have hFc := va_free (wc := [oM y b (((R : Nat) : Int)) (fm1) (kn) (pm0) (lm), aI t (b 6) 6000 (Pr), aI t (b 7) 600 (Lr), aI t (b 8) 2048 (Sm)]) hD hS hA [0, 1, 2, 3] rfl
      refine va_callv (va_runV (As := [.int (zI (((n.toNat : Nat) : Int)))]) (rest := []) ⟨hx, hb, hml, hown, hts⟩ (c_X7_know l D t s.heap.size y b R fm1 kn pm0 lm Pr Lr Sm n.toNat (by omega) (pK_k gP) (fun z => pK_n gP z)) (cwV 1 hts gX7_pairs_X7_know rfl rfl rfl (by decide +kernel) ⟨Nat.le_of_ble_eq_true rfl, Nat.le_of_ble_eq_true rfl⟩) ⟨fun a U g mk q => by obtain ⟨q0, q1, qP, qK, qD⟩ := q; exact ⟨q0, q1, qP, va_K.moved (u := U) (U := U.calling g mk a) (Vm.Alike.refl U.vm) qK, qD⟩, va_recv hK hPc (ci := 6) (q0 := 0) rfl rfl, fun U hU hW => ⟨rfl, by rw [hU], by rw [hU]; exact hPc, va_K.moved hW.alike hK, hDc.weaken (fun _ _ _ _ => trivial)⟩⟩ rfl rfl hl.1 rfl (lv_room (Nat.le_of_ble_eq_true rfl)) dX7_pairs_28 ⟨Nat.le_of_ble_eq_true rfl, Nat.le_of_ble_eq_true rfl⟩) hS (fun q _ h => hFc q h) hFc (fun u tq H1 locs ht hvm hr28 hB hz1 hk1 hS => ?_)
      obtain ⟨p2, l2, P2, L2, S2⟩ := u
      obtain ⟨hP1, hK1, hD1⟩ := hB
      rw [ht] at hP1
      obtain ⟨hP, hD⟩ := va_join (wr := []) (w1 := [oM y b (((R : Nat) : Int)) (fm1) ((((n.toNat) : Nat) : Int)) (p2) (l2), aI t (b 6) 6000 (P2), aI t (b 7) 600 (L2), aI t (b 8) 2048 (S2)]) hP hD [0, 1, 2, 3] [] rfl rfl (by decide) (by decide) hk1 hFc hP1 hD1
      generalize H1 = H at hP hS ⊢
      have hP : va_P D vwCl [oM y b (((R : Nat) : Int)) (fm1) ((((n.toNat) : Nat) : Int)) (p2) (l2), aI t (b 6) 6000 (P2), aI t (b 7) 600 (L2), aI t (b 8) 2048 (S2)] H := hP
      have hD : va_D AA [oM y b (((R : Nat) : Int)) (fm1) ((((n.toNat) : Nat) : Int)) (p2) (l2), aI t (b 6) 6000 (P2), aI t (b 7) 600 (L2), aI t (b 8) 2048 (S2)] := hD
      try dsimp only at hr28
      have g1 := (show 1 ≤ n.toNat ∧ n.toNat ≤ 8 by omega)
      have g2 := hdd_lt g1
      have g3 := hr28.1
      have g4 := hr28.2.1
      have g5 := pairs_all g1
      have g6 : (aA n.toNat).length ≤ 192 := g5.2.2.2.1
      have g7 : (aK n.toNat).length ≤ 5 := g5.2.2.1
      refine lv_iload_n hx hb dX7_pairs_31 rfl (lv_at hl 2 rfl) ?_
      refine lv_iconst (v := zI 2) hx hb dX7_pairs_32 rfl ?_
      refine z_icmp_ge (tgt := 52) hx hb dX7_pairs_33 (by decide) (by omega) (by omega) (fun c33 => ?_) (fun c33 => ?_)
      · refine lv_aload_n hx hb dX7_pairs_52 rfl (lv_at hl 0 rfl) ?_
        refine va_get (D := D) (ci := 6) (v := .int (zI (p2))) (C := RX7) (T := TX7) (N := 16) hx hb hts iX7 hown hK hP 0 rfl rfl 9 (by decide) (hts (.fieldLink RX7 140 "CancelRowsModel" "pairMany" "I") (by decide +kernel)) (fun _ h9 => h9) rfl dX7_pairs_53 ?_
        refine z_if_ne (tgt := 64) hx hb dX7_pairs_56 (by decide) (by omega) (fun c56 => ?_) (fun c56 => ?_)
        · refine lv_iload_n hx hb dX7_pairs_64 rfl (lv_at hl 2 rfl) ?_
          refine lv_iconst (v := zI 2) hx hb dX7_pairs_65 rfl ?_
          refine z_icmp_ne (tgt := 82) hx hb dX7_pairs_66 (by decide) (by omega) (by omega) (fun c66 => ?_) (fun c66 => ?_)
          · refine lv_aload_n hx hb dX7_pairs_82 rfl (lv_at hl 0 rfl) ?_
            refine va_get (D := D) (ci := 6) (v := .ref (b 6)) (C := RX7) (T := TX7) (N := 16) hx hb hts iX7 hown hK hP 0 rfl rfl 10 (by decide) (hts (.fieldLink RX7 33 "CancelRowsModel" "pairRow" "[I") (by decide +kernel)) (fun _ h9 => h9) rfl dX7_pairs_83 ?_
            refine lv_iconst (v := zI 0) hx hb dX7_pairs_86 rfl ?_
            refine z_iald hx hb hK hP 1 0 rfl rfl (0) (by omega) (by omega) (by omega) dX7_pairs_87 ?_
            refine z_re (e2 := ((hdd (aA n.toNat) : Nat) : Int)) (hdL_0 hr28.2.2.1 (by omega)) ?_
            refine lv_sipush (v := zI 1000) hx hb dX7_pairs_88 (by decide +kernel) ?_
            refine z_irem hx hb (by omega) (by omega) dX7_pairs_91 ?_
            refine z_re (e2 := ((hdd (aA n.toNat) % 1000 : Nat) : Int)) (rfl) ?_
            have hP := hP.sub (ws' := [oM y b (((R : Nat) : Int)) (fm1) (((n.toNat : Nat) : Int)) (p2) (l2), aI t (b 6) 6000 (P2), aI t (b 7) 600 (L2), aI t (b 8) 2048 (S2)]) [0, 1, 2, 3] rfl
            have hD := hD.sub (ws' := [oM y b (((R : Nat) : Int)) (fm1) (((n.toNat : Nat) : Int)) (p2) (l2), aI t (b 6) 6000 (P2), aI t (b 7) 600 (L2), aI t (b 8) 2048 (S2)]) [0, 1, 2, 3] (by decide) rfl
            exact W.iret (v := (zI (((hdd (aA n.toNat) % 1000 : Nat) : Int)))) hx hb hr (fun tq ht hW => ⟨⟨_, (((n.toNat : Nat) : Int), p2, l2, P2, L2, S2), rfl, ⟨by rw [sp_pairs, if_pos (by omega), if_neg (by omega), if_neg (by omega), if_neg (by omega), if_neg (by omega)], pK_of (by omega) hr28⟩, by rw [ht]; exact hP, va_K.moved hW.alike hK, hD⟩, hS.F ht⟩) hS.2.2 dX7_pairs_92
          · refine lv_aload_n hx hb dX7_pairs_69 rfl (lv_at hl 0 rfl) ?_
            refine va_get (D := D) (ci := 6) (v := .ref (b 6)) (C := RX7) (T := TX7) (N := 16) hx hb hts iX7 hown hK hP 0 rfl rfl 10 (by decide) (hts (.fieldLink RX7 33 "CancelRowsModel" "pairRow" "[I") (by decide +kernel)) (fun _ h9 => h9) rfl dX7_pairs_70 ?_
            refine lv_iconst (v := zI 0) hx hb dX7_pairs_73 rfl ?_
            refine z_iald hx hb hK hP 1 0 rfl rfl (0) (by omega) (by omega) (by omega) dX7_pairs_74 ?_
            refine z_re (e2 := ((hdd (aA n.toNat) : Nat) : Int)) (hdL_0 hr28.2.2.1 (by omega)) ?_
            refine lv_sipush (v := zI 1000) hx hb dX7_pairs_75 (by decide +kernel) ?_
            refine z_idiv hx hb (by omega) (by omega) dX7_pairs_78 ?_
            refine z_re (e2 := ((hdd (aA n.toNat) / 1000 : Nat) : Int)) (rfl) ?_
            refine lv_goto (tgt := 92) hx hb dX7_pairs_79 (by decide) ?_
            have hP := hP.sub (ws' := [oM y b (((R : Nat) : Int)) (fm1) (((n.toNat : Nat) : Int)) (p2) (l2), aI t (b 6) 6000 (P2), aI t (b 7) 600 (L2), aI t (b 8) 2048 (S2)]) [0, 1, 2, 3] rfl
            have hD := hD.sub (ws' := [oM y b (((R : Nat) : Int)) (fm1) (((n.toNat : Nat) : Int)) (p2) (l2), aI t (b 6) 6000 (P2), aI t (b 7) 600 (L2), aI t (b 8) 2048 (S2)]) [0, 1, 2, 3] (by decide) rfl
            exact W.iret (v := (zI (((hdd (aA n.toNat) / 1000 : Nat) : Int)))) hx hb hr (fun tq ht hW => ⟨⟨_, (((n.toNat : Nat) : Int), p2, l2, P2, L2, S2), rfl, ⟨by rw [sp_pairs, if_pos (by omega), if_neg (by omega), if_neg (by omega), if_neg (by omega), if_pos (by omega)], pK_of (by omega) hr28⟩, by rw [ht]; exact hP, va_K.moved hW.alike hK, hD⟩, hS.F ht⟩) hS.2.2 dX7_pairs_92
        · refine lv_bipush (v := zI (-4)) hx hb dX7_pairs_59 (by decide +kernel) ?_
          refine lv_goto (tgt := 92) hx hb dX7_pairs_61 (by decide) ?_
          have hP := hP.sub (ws' := [oM y b (((R : Nat) : Int)) (fm1) (((n.toNat : Nat) : Int)) (p2) (l2), aI t (b 6) 6000 (P2), aI t (b 7) 600 (L2), aI t (b 8) 2048 (S2)]) [0, 1, 2, 3] rfl
          have hD := hD.sub (ws' := [oM y b (((R : Nat) : Int)) (fm1) (((n.toNat : Nat) : Int)) (p2) (l2), aI t (b 6) 6000 (P2), aI t (b 7) 600 (L2), aI t (b 8) 2048 (S2)]) [0, 1, 2, 3] (by decide) rfl
          exact W.iret (v := (zI ((-4)))) hx hb hr (fun tq ht hW => ⟨⟨_, (((n.toNat : Nat) : Int), p2, l2, P2, L2, S2), rfl, ⟨by rw [sp_pairs, if_pos (by omega), if_neg (by omega), if_neg (by omega), if_pos (by omega)], pK_of (by omega) hr28⟩, by rw [ht]; exact hP, va_K.moved hW.alike hK, hD⟩, hS.F ht⟩) hS.2.2 dX7_pairs_92
      · refine lv_iload_n hx hb dX7_pairs_36 rfl (lv_at hl 2 rfl) ?_
        refine z_if_ne (tgt := 47) hx hb dX7_pairs_37 (by decide) (by omega) (fun c37 => ?_) (fun c37 => ?_)
        · refine lv_aload_n hx hb dX7_pairs_47 rfl (lv_at hl 0 rfl) ?_
          refine va_get (D := D) (ci := 6) (v := .int (zI (l2))) (C := RX7) (T := TX7) (N := 16) hx hb hts iX7 hown hK hP 0 rfl rfl 11 (by decide) (hts (.fieldLink RX7 143 "CancelRowsModel" "leastMany" "I") (by decide +kernel)) (fun _ h9 => h9) rfl dX7_pairs_48 ?_
          have hP := hP.sub (ws' := [oM y b (((R : Nat) : Int)) (fm1) (((n.toNat : Nat) : Int)) (p2) (l2), aI t (b 6) 6000 (P2), aI t (b 7) 600 (L2), aI t (b 8) 2048 (S2)]) [0, 1, 2, 3] rfl
          have hD := hD.sub (ws' := [oM y b (((R : Nat) : Int)) (fm1) (((n.toNat : Nat) : Int)) (p2) (l2), aI t (b 6) 6000 (P2), aI t (b 7) 600 (L2), aI t (b 8) 2048 (S2)]) [0, 1, 2, 3] (by decide) rfl
          exact W.iret (v := (zI (l2))) hx hb hr (fun tq ht hW => ⟨⟨_, (((n.toNat : Nat) : Int), p2, l2, P2, L2, S2), rfl, ⟨by rw [sp_pairs, if_pos (by omega), if_neg (by omega), if_pos (by omega), ← g4], pK_of (by omega) hr28⟩, by rw [ht]; exact hP, va_K.moved hW.alike hK, hD⟩, hS.F ht⟩) hS.2.2 dX7_pairs_51
        · refine lv_aload_n hx hb dX7_pairs_40 rfl (lv_at hl 0 rfl) ?_
          refine va_get (D := D) (ci := 6) (v := .int (zI (p2))) (C := RX7) (T := TX7) (N := 16) hx hb hts iX7 hown hK hP 0 rfl rfl 9 (by decide) (hts (.fieldLink RX7 140 "CancelRowsModel" "pairMany" "I") (by decide +kernel)) (fun _ h9 => h9) rfl dX7_pairs_41 ?_
          refine lv_goto (tgt := 51) hx hb dX7_pairs_44 (by decide) ?_
          have hP := hP.sub (ws' := [oM y b (((R : Nat) : Int)) (fm1) (((n.toNat : Nat) : Int)) (p2) (l2), aI t (b 6) 6000 (P2), aI t (b 7) 600 (L2), aI t (b 8) 2048 (S2)]) [0, 1, 2, 3] rfl
          have hD := hD.sub (ws' := [oM y b (((R : Nat) : Int)) (fm1) (((n.toNat : Nat) : Int)) (p2) (l2), aI t (b 6) 6000 (P2), aI t (b 7) 600 (L2), aI t (b 8) 2048 (S2)]) [0, 1, 2, 3] (by decide) rfl
          exact W.iret (v := (zI (p2))) hx hb hr (fun tq ht hW => ⟨⟨_, (((n.toNat : Nat) : Int), p2, l2, P2, L2, S2), rfl, ⟨by rw [sp_pairs, if_pos (by omega), if_pos (by omega), ← g3], pK_of (by omega) hr28⟩, by rw [ht]; exact hP, va_K.moved hW.alike hK, hD⟩, hS.F ht⟩) hS.2.2 dX7_pairs_51
    · refine lv_iconst (v := zI (-1)) hx hb dX7_pairs_24 rfl ?_
      exact W.iret (v := (zI ((-1)))) hx hb hr (fun tq ht hW => ⟨⟨_, (kn, pm0, lm, Pr, Lr, Sm), rfl, ⟨by rw [sp_pairs, if_neg (fun z => by omega)], gP⟩, by rw [ht]; exact hP, va_K.moved hW.alike hK, hD⟩, hS.F ht⟩) hS.2.2 dX7_pairs_25

-- the check: pair
set_option maxHeartbeats 4000000 in
set_option maxRecDepth 100000 in
theorem c_X7_pair (l : Launch) (D : va_G) (t : Nat → ClassId) (sz : Nat) (y : Nat) (b : Nat → Nat) (R : Nat) (fm1 kn pm0 lm : Int) (Pr Lr Sm : Nat → Int) (gP : pK kn pm0 lm Pr Lr) (n i : Int) (gn : -2147483648 ≤ n ∧ n < 2147483648) (gi : -2147483648 ≤ i ∧ i < 2147483648) : Met l yX7_pair wsX7_pair ({ frames := 4, cells := 0, slots := 0, locals := 107 }) (va_Pc [.ref y, .int (zI (n)), .int (zI (i))] (fun U => U.heap.size = sz ∧ va_P D vwCl ([oM y b (((R : Nat) : Int)) (fm1) (kn) (pm0) (lm), aI t (b 6) 6000 (Pr), aI t (b 7) 600 (Lr), aI t (b 8) 2048 (Sm)]) U.heap ∧ va_K D vwCl (TY t) U ∧ va_D (fun _ => True) ([oM y b (((R : Nat) : Int)) (fm1) (kn) (pm0) (lm), aI t (b 6) 6000 (Pr), aI t (b 7) 600 (Lr), aI t (b 8) 2048 (Sm)]))) (va_Qi (fun r (u : Int × Int × Int × (Nat → Int) × (Nat → Int) × (Nat → Int)) => r = zI (sp_pair n i) ∧ pK u.1 u.2.1 u.2.2.1 u.2.2.2.1 u.2.2.2.2.1) (fun (u : Int × Int × Int × (Nat → Int) × (Nat → Int) × (Nat → Int)) t1 => va_P D vwCl ([oM y b (((R : Nat) : Int)) (fm1) (u.1) (u.2.1) (u.2.2.1), aI t (b 6) 6000 (u.2.2.2.1), aI t (b 7) 600 (u.2.2.2.2.1), aI t (b 8) 2048 (u.2.2.2.2.2)]) t1.heap ∧ va_K D vwCl (TY t) t1 ∧ va_D (va_A ([oM y b (((R : Nat) : Int)) (fm1) (kn) (pm0) (lm), aI t (b 6) 6000 (Pr), aI t (b 7) 600 (Lr), aI t (b 8) 2048 (Sm)]) sz) ([oM y b (((R : Nat) : Int)) (fm1) (u.1) (u.2.1) (u.2.2.1), aI t (b 6) 6000 (u.2.2.2.1), aI t (b 7) 600 (u.2.2.2.2.1), aI t (b 8) 2048 (u.2.2.2.2.2)])) (va_A ([oM y b (((R : Nat) : Int)) (fm1) (kn) (pm0) (lm), aI t (b 6) 6000 (Pr), aI t (b 7) 600 (Lr), aI t (b 8) 2048 (Sm)]) sz)) 0 0 (va_A ([oM y b (((R : Nat) : Int)) (fm1) (kn) (pm0) (lm), aI t (b 6) 6000 (Pr), aI t (b 7) 600 (Lr), aI t (b 8) 2048 (Sm)]) sz) := by
  refine Met.ofW (cc := cX7_pair) (maxL := 3) (ret := (some .int)) (by decide) rfl ?_
  intro p e s m args below meth c s₁ B hml hv
  obtain ⟨rfl, hsz, hP, hK, hD0⟩ := hv
  have hx := B.exec
  have hb := B.bytes
  have hr := B.returns
  have hts := atoms_spec (ws := wsX7_pair) B.pre
  have hown : s.vm.findClass RX7 = some m.cls := findClass_of_methodNamed B.named
  have hlocks := B.notSynchronized
  subst hsz
  have hD := hD0.self (sz := s.heap.size)
  generalize hAe : va_A ([oM y b (((R : Nat) : Int)) (fm1) (kn) (pm0) (lm), aI t (b 6) 6000 (Pr), aI t (b 7) 600 (Lr), aI t (b 8) 2048 (Sm)]) s.heap.size = AA at hD ⊢
  have hA : ∀ q : Nat, s.heap.size ≤ q → AA q := fun q h => by rw [← hAe]; exact Or.inr h
  have hS : va_S AA s.heap s.heap [] := va_S.rf
  have hP : va_P D vwCl ([oM y b (((R : Nat) : Int)) (fm1) (kn) (pm0) (lm), aI t (b 6) 6000 (Pr), aI t (b 7) 600 (Lr), aI t (b 8) 2048 (Sm)]) s.heap := hP
  have hl := lv_entry ([.ref y, .int (zI (n)), .int (zI (i))]) (n := 3) (Nat.le_of_ble_eq_true rfl)
  rw [lg_entry_eq]
  generalize (lg_sl ([.ref y, .int (zI (n)), .int (zI (i))]) ++ List.replicate (3 - (lg_sl ([.ref y, .int (zI (n)), .int (zI (i))])).length) Slot.unset).toArray = ls at hl ⊢
  have hl : lv_has ls 3 [(0, .ref y), (1, .int (zI (n))), (2, .int (zI (i)))] := hl
  have iX7 : ∀ w ∈ u_ws RX7 TX7 16, w ∈ wsX7_pair := by decide +kernel
  refine lv_iload_n hx hb dX7_pair_0 rfl (lv_at hl 1 rfl) ?_
  refine z_i2l hx hb (by omega) dX7_pair_1 ?_
  refine lv_lconst (v := lN 1) hx hb dX7_pair_2 rfl ?_
  refine lv_ldc2 (v := lN 8) hx hb hown (hts (.constantLong RX7 150 (lN 8)) (by decide +kernel)) dX7_pair_3 ?_
  refine vp_callSi (va_runS (As := [.long (zL (n)), .long (lN (1)), .long (lN (8))]) (rest := []) ⟨hx, hb, hml, hown, hts⟩ (c_X7_in l _ _ _) (va_cwS 3 hts gX7_pair_X7_in rfl rfl rfl (by decide +kernel) ⟨Nat.le_of_ble_eq_true rfl, Nat.le_of_ble_eq_true rfl⟩) ⟨fun a U g mk q => q, fun U hU hW => ⟨rfl, trivial⟩⟩ rfl rfl hl.1 rfl (lv_room (Nat.le_of_ble_eq_true rfl)) dX7_pair_6 ⟨Nat.le_of_ble_eq_true rfl, Nat.le_of_ble_eq_true rfl⟩).run (fun r hr6 => ?_)
  have hq6 : r = zI (bP (((1 : Nat) : Int) ≤ n ∧ n ≤ ((8 : Nat) : Int))) := by rw [hr6]; exact congrArg zI (bP_cg (by simp only [zL_toInt (e := n) (by omega), lN_toI (n := 1) (by omega), lN_toI (n := 8) (by omega)]))
  obtain rfl := hq6
  refine z_ifb_eq (P := ((1 : Nat) : Int) ≤ n ∧ n ≤ ((8 : Nat) : Int)) (tgt := 16) hx hb dX7_pair_9 (by decide) (fun c9 => ?_) (fun c9 => ?_)
  · refine lv_iconst (v := zI (-1)) hx hb dX7_pair_16 rfl ?_
    exact W.iret (v := (zI ((-1)))) hx hb hr (fun tq ht hW => ⟨⟨_, (kn, pm0, lm, Pr, Lr, Sm), rfl, ⟨by rw [sp_pair, if_neg (fun z => by omega)], gP⟩, by rw [ht]; exact hP, va_K.moved hW.alike hK, hD⟩, hS.F ht⟩) hS.2.2 dX7_pair_17
  · refine lv_iload_n hx hb dX7_pair_12 rfl (lv_at hl 2 rfl) ?_
    refine z_if_ge (tgt := 18) hx hb dX7_pair_13 (by decide) (by omega) (fun c13 => ?_) (fun c13 => ?_)
    · refine lv_aload_n hx hb dX7_pair_18 rfl (lv_at hl 0 rfl) ?_
      refine lv_iload_n hx hb dX7_pair_19 rfl (lv_at hl 1 rfl) ?_
      refine z_re (e2 := ((n.toNat : Nat) : Int)) (by omega) ?_
      have hPc := hP.sub (ws' := [oM y b (((R : Nat) : Int)) (fm1) (kn) (pm0) (lm), aI t (b 6) 6000 (Pr), aI t (b 7) 600 (Lr), aI t (b 8) 2048 (Sm)]) [0, 1, 2, 3] rfl
      have hDc := hD.sub (ws' := [oM y b (((R : Nat) : Int)) (fm1) (kn) (pm0) (lm), aI t (b 6) 6000 (Pr), aI t (b 7) 600 (Lr), aI t (b 8) 2048 (Sm)]) [0, 1, 2, 3] (by decide) rfl
      have hFc := va_free (wc := [oM y b (((R : Nat) : Int)) (fm1) (kn) (pm0) (lm), aI t (b 6) 6000 (Pr), aI t (b 7) 600 (Lr), aI t (b 8) 2048 (Sm)]) hD hS hA [0, 1, 2, 3] rfl
      refine va_callv (va_runV (As := [.int (zI (((n.toNat : Nat) : Int)))]) (rest := []) ⟨hx, hb, hml, hown, hts⟩ (c_X7_know l D t s.heap.size y b R fm1 kn pm0 lm Pr Lr Sm n.toNat (by omega) (pK_k gP) (fun z => pK_n gP z)) (cwV 1 hts gX7_pair_X7_know rfl rfl rfl (by decide +kernel) ⟨Nat.le_of_ble_eq_true rfl, Nat.le_of_ble_eq_true rfl⟩) ⟨fun a U g mk q => by obtain ⟨q0, q1, qP, qK, qD⟩ := q; exact ⟨q0, q1, qP, va_K.moved (u := U) (U := U.calling g mk a) (Vm.Alike.refl U.vm) qK, qD⟩, va_recv hK hPc (ci := 6) (q0 := 0) rfl rfl, fun U hU hW => ⟨rfl, by rw [hU], by rw [hU]; exact hPc, va_K.moved hW.alike hK, hDc.weaken (fun _ _ _ _ => trivial)⟩⟩ rfl rfl hl.1 rfl (lv_room (Nat.le_of_ble_eq_true rfl)) dX7_pair_20 ⟨Nat.le_of_ble_eq_true rfl, Nat.le_of_ble_eq_true rfl⟩) hS (fun q _ h => hFc q h) hFc (fun u tq H1 locs ht hvm hr20 hB hz1 hk1 hS => ?_)
      obtain ⟨p2, l2, P2, L2, S2⟩ := u
      obtain ⟨hP1, hK1, hD1⟩ := hB
      rw [ht] at hP1
      obtain ⟨hP, hD⟩ := va_join (wr := []) (w1 := [oM y b (((R : Nat) : Int)) (fm1) ((((n.toNat) : Nat) : Int)) (p2) (l2), aI t (b 6) 6000 (P2), aI t (b 7) 600 (L2), aI t (b 8) 2048 (S2)]) hP hD [0, 1, 2, 3] [] rfl rfl (by decide) (by decide) hk1 hFc hP1 hD1
      generalize H1 = H at hP hS ⊢
      have hP : va_P D vwCl [oM y b (((R : Nat) : Int)) (fm1) ((((n.toNat) : Nat) : Int)) (p2) (l2), aI t (b 6) 6000 (P2), aI t (b 7) 600 (L2), aI t (b 8) 2048 (S2)] H := hP
      have hD : va_D AA [oM y b (((R : Nat) : Int)) (fm1) ((((n.toNat) : Nat) : Int)) (p2) (l2), aI t (b 6) 6000 (P2), aI t (b 7) 600 (L2), aI t (b 8) 2048 (S2)] := hD
      try dsimp only at hr20
      have g1 := (show 1 ≤ n.toNat ∧ n.toNat ≤ 8 by omega)
      have g2 := hdd_lt g1
      have g3 := hr20.1
      have g4 := hr20.2.1
      have g5 := pairs_all g1
      have g6 : (aA n.toNat).length ≤ 192 := g5.2.2.2.1
      have g7 : (aK n.toNat).length ≤ 5 := g5.2.2.1
      refine lv_iload_n hx hb dX7_pair_23 rfl (lv_at hl 2 rfl) ?_
      refine lv_aload_n hx hb dX7_pair_24 rfl (lv_at hl 0 rfl) ?_
      refine va_get (D := D) (ci := 6) (v := .int (zI (l2))) (C := RX7) (T := TX7) (N := 16) hx hb hts iX7 hown hK hP 0 rfl rfl 11 (by decide) (hts (.fieldLink RX7 143 "CancelRowsModel" "leastMany" "I") (by decide +kernel)) (fun _ h9 => h9) rfl dX7_pair_25 ?_
      refine z_icmp_ge (tgt := 40) hx hb dX7_pair_28 (by decide) (by omega) (by omega) (fun c28 => ?_) (fun c28 => ?_)
      · refine lv_bipush (v := zI (-4)) hx hb dX7_pair_40 (by decide +kernel) ?_
        have hP := hP.sub (ws' := [oM y b (((R : Nat) : Int)) (fm1) (((n.toNat : Nat) : Int)) (p2) (l2), aI t (b 6) 6000 (P2), aI t (b 7) 600 (L2), aI t (b 8) 2048 (S2)]) [0, 1, 2, 3] rfl
        have hD := hD.sub (ws' := [oM y b (((R : Nat) : Int)) (fm1) (((n.toNat : Nat) : Int)) (p2) (l2), aI t (b 6) 6000 (P2), aI t (b 7) 600 (L2), aI t (b 8) 2048 (S2)]) [0, 1, 2, 3] (by decide) rfl
        exact W.iret (v := (zI ((-4)))) hx hb hr (fun tq ht hW => ⟨⟨_, (((n.toNat : Nat) : Int), p2, l2, P2, L2, S2), rfl, ⟨by rw [sp_pair, if_pos (by omega), if_neg (by omega)], pK_of (by omega) hr20⟩, by rw [ht]; exact hP, va_K.moved hW.alike hK, hD⟩, hS.F ht⟩) hS.2.2 dX7_pair_42
      · refine lv_aload_n hx hb dX7_pair_31 rfl (lv_at hl 0 rfl) ?_
        refine va_get (D := D) (ci := 6) (v := .ref (b 7)) (C := RX7) (T := TX7) (N := 16) hx hb hts iX7 hown hK hP 0 rfl rfl 12 (by decide) (hts (.fieldLink RX7 36 "CancelRowsModel" "leastRow" "[I") (by decide +kernel)) (fun _ h9 => h9) rfl dX7_pair_32 ?_
        refine lv_iload_n hx hb dX7_pair_35 rfl (lv_at hl 2 rfl) ?_
        refine z_iald hx hb hK hP 2 0 rfl rfl (i.toNat) (by omega) (by omega) (by omega) dX7_pair_36 ?_
        refine z_re (e2 := ((atL (aK n.toNat) i.toNat : Nat) : Int)) (hdL_at hr20.2.2.2 (by omega)) ?_
        refine lv_goto (tgt := 42) hx hb dX7_pair_37 (by decide) ?_
        have hP := hP.sub (ws' := [oM y b (((R : Nat) : Int)) (fm1) (((n.toNat : Nat) : Int)) (p2) (l2), aI t (b 6) 6000 (P2), aI t (b 7) 600 (L2), aI t (b 8) 2048 (S2)]) [0, 1, 2, 3] rfl
        have hD := hD.sub (ws' := [oM y b (((R : Nat) : Int)) (fm1) (((n.toNat : Nat) : Int)) (p2) (l2), aI t (b 6) 6000 (P2), aI t (b 7) 600 (L2), aI t (b 8) 2048 (S2)]) [0, 1, 2, 3] (by decide) rfl
        exact W.iret (v := (zI (((atL (aK n.toNat) i.toNat : Nat) : Int)))) hx hb hr (fun tq ht hW => ⟨⟨_, (((n.toNat : Nat) : Int), p2, l2, P2, L2, S2), rfl, ⟨by rw [sp_pair, if_pos (by omega), if_pos (by omega)], pK_of (by omega) hr20⟩, by rw [ht]; exact hP, va_K.moved hW.alike hK, hD⟩, hS.F ht⟩) hS.2.2 dX7_pair_42
    · refine lv_iconst (v := zI (-1)) hx hb dX7_pair_16 rfl ?_
      exact W.iret (v := (zI ((-1)))) hx hb hr (fun tq ht hW => ⟨⟨_, (kn, pm0, lm, Pr, Lr, Sm), rfl, ⟨by rw [sp_pair, if_neg (fun z => by omega)], gP⟩, by rw [ht]; exact hP, va_K.moved hW.alike hK, hD⟩, hS.F ht⟩) hS.2.2 dX7_pair_17
