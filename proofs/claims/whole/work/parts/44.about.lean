/-! the check: about, least -/
-- the check: about
set_option maxHeartbeats 4000000 in
set_option maxRecDepth 100000 in
theorem c_X7_about (l : Launch) (D : va_G) (t : Nat → ClassId) (sz : Nat) (y : Nat) (b : Nat → Nat) (R : Nat) (fm kn pm0 lm : Int) (F G : Nat → Nat) (gV : RV R F G) (fd0 : Nat → Nat) (i w : Int) (gi : -2147483648 ≤ i ∧ i < 2147483648) (gw : -2147483648 ≤ w ∧ w < 2147483648) : Met l yX7_about wsX7_about ({ frames := 3, cells := 0, slots := 0, locals := 81 }) (va_Pc [.ref y, .int (zI (i)), .int (zI (w))] (fun U => U.heap.size = sz ∧ va_P D vwCl ([oM y b (((R : Nat) : Int)) (fm) (kn) (pm0) (lm), aI t (b 0) 24 (cN F), aJ t (b 1) 24 (G), aJ t (b 5) 16 (fd0)]) U.heap ∧ va_K D vwCl (TY t) U ∧ va_D (fun _ => True) ([oM y b (((R : Nat) : Int)) (fm) (kn) (pm0) (lm), aI t (b 0) 24 (cN F), aJ t (b 1) 24 (G), aJ t (b 5) 16 (fd0)]))) (va_Qi (fun r (u : Int × (Nat → Nat)) => r = zI (sp_about R F G i w)) (fun (u : Int × (Nat → Nat)) t1 => va_P D vwCl ([oM y b (((R : Nat) : Int)) (u.1) (kn) (pm0) (lm), aI t (b 0) 24 (cN F), aJ t (b 1) 24 (G), aJ t (b 5) 16 (u.2)]) t1.heap ∧ va_K D vwCl (TY t) t1 ∧ va_D (va_A ([oM y b (((R : Nat) : Int)) (fm) (kn) (pm0) (lm), aI t (b 0) 24 (cN F), aJ t (b 1) 24 (G), aJ t (b 5) 16 (fd0)]) sz) ([oM y b (((R : Nat) : Int)) (u.1) (kn) (pm0) (lm), aI t (b 0) 24 (cN F), aJ t (b 1) 24 (G), aJ t (b 5) 16 (u.2)])) (va_A ([oM y b (((R : Nat) : Int)) (fm) (kn) (pm0) (lm), aI t (b 0) 24 (cN F), aJ t (b 1) 24 (G), aJ t (b 5) 16 (fd0)]) sz)) 0 0 (va_A ([oM y b (((R : Nat) : Int)) (fm) (kn) (pm0) (lm), aI t (b 0) 24 (cN F), aJ t (b 1) 24 (G), aJ t (b 5) 16 (fd0)]) sz) := by
  refine Met.ofW (cc := cX7_about) (maxL := 9) (ret := (some .int)) (by decide) rfl ?_
  intro p e s m args below meth c s₁ B hml hv
  obtain ⟨rfl, hsz, hP, hK, hD0⟩ := hv
  have hx := B.exec
  have hb := B.bytes
  have hr := B.returns
  have hts := atoms_spec (ws := wsX7_about) B.pre
  have hown : s.vm.findClass RX7 = some m.cls := findClass_of_methodNamed B.named
  have hlocks := B.notSynchronized
  subst hsz
  have hD := hD0.self (sz := s.heap.size)
  generalize hAe : va_A ([oM y b (((R : Nat) : Int)) (fm) (kn) (pm0) (lm), aI t (b 0) 24 (cN F), aJ t (b 1) 24 (G), aJ t (b 5) 16 (fd0)]) s.heap.size = AA at hD ⊢
  have hA : ∀ q : Nat, s.heap.size ≤ q → AA q := fun q h => by rw [← hAe]; exact Or.inr h
  have hS : va_S AA s.heap s.heap [] := va_S.rf
  have hP : va_P D vwCl ([oM y b (((R : Nat) : Int)) (fm) (kn) (pm0) (lm), aI t (b 0) 24 (cN F), aJ t (b 1) 24 (G), aJ t (b 5) 16 (fd0)]) s.heap := hP
  have hl := lv_entry ([.ref y, .int (zI (i)), .int (zI (w))]) (n := 9) (Nat.le_of_ble_eq_true rfl)
  rw [lg_entry_eq]
  generalize (lg_sl ([.ref y, .int (zI (i)), .int (zI (w))]) ++ List.replicate (9 - (lg_sl ([.ref y, .int (zI (i)), .int (zI (w))])).length) Slot.unset).toArray = ls at hl ⊢
  have hl : lv_has ls 9 [(0, .ref y), (1, .int (zI (i))), (2, .int (zI (w)))] := hl
  have iX7 : ∀ w ∈ u_ws RX7 TX7 16, w ∈ wsX7_about := by decide +kernel
  have gR := gV.1
  refine lv_aload_n hx hb dX7_about_0 rfl (lv_at hl 0 rfl) ?_
  refine lv_iload_n hx hb dX7_about_1 rfl (lv_at hl 1 rfl) ?_
  have hPc := hP.sub (ws' := [oM y b (((R : Nat) : Int)) (fm) (kn) (pm0) (lm)]) [0] rfl
  refine vp_callSi (va_runV (As := [.int (zI (i))]) (rest := []) ⟨hx, hb, hml, hown, hts⟩ (c_X7_is l D t y b R fm kn pm0 lm gV.1 i gi) (cwV 1 hts gX7_about_X7_is rfl rfl rfl (by decide +kernel) ⟨Nat.le_of_ble_eq_true rfl, Nat.le_of_ble_eq_true rfl⟩) ⟨fun a U g mk q => ⟨q.1, q.2.1, va_K.moved (u := U) (U := U.calling g mk a) (Vm.Alike.refl U.vm) q.2.2⟩, va_recv hK hPc (ci := 6) (q0 := 0) rfl rfl, fun U hU hW => ⟨rfl, by rw [hU]; exact hPc, va_K.moved hW.alike hK⟩⟩ rfl rfl hl.1 rfl (lv_room (Nat.le_of_ble_eq_true rfl)) dX7_about_2 ⟨Nat.le_of_ble_eq_true rfl, Nat.le_of_ble_eq_true rfl⟩).run (fun r hr2 => ?_)
  obtain rfl := hr2
  refine z_ifb_ne (P := inR R (i)) (tgt := 10) hx hb dX7_about_5 (by decide) (fun c5 => ?_) (fun c5 => ?_)
  · have h1 := RV_at gV c5
    have h2 := lt32 h1.2.2 h1.2.1
    refine lv_aload_n hx hb dX7_about_10 rfl (lv_at hl 0 rfl) ?_
    refine va_get (D := D) (ci := 6) (v := .ref (b 0)) (C := RX7) (T := TX7) (N := 16) hx hb hts iX7 hown hK hP 0 rfl rfl 1 (by decide) (hts (.fieldLink RX7 7 "CancelRowsModel" "lengths" "[I") (by decide +kernel)) (fun _ h9 => h9) rfl dX7_about_11 ?_
    refine lv_iload_n hx hb dX7_about_14 rfl (lv_at hl 1 rfl) ?_
    refine z_iald hx hb hK hP 1 0 rfl rfl (i.toNat) (by omega) (by omega) (by omega) dX7_about_15 ?_
    refine z_re (e2 := ((F (i.toNat) : Nat) : Int)) (rfl) ?_
    refine lv_istore_n (lv' := [(3, .int (zI (((F (i.toNat) : Nat) : Int)))), (0, .ref y), (1, .int (zI (i))), (2, .int (zI (w)))]) hx hb dX7_about_16 rfl hl (by decide) rfl (fun ls hl => ?_)
    refine lv_aload_n hx hb dX7_about_17 rfl (lv_at hl 1 rfl) ?_
    refine va_get (D := D) (ci := 6) (v := .ref (b 1)) (C := RX7) (T := TX7) (N := 16) hx hb hts iX7 hown hK hP 0 rfl rfl 2 (by decide) (hts (.fieldLink RX7 13 "CancelRowsModel" "numbers" "[J") (by decide +kernel)) (fun _ h9 => h9) rfl dX7_about_18 ?_
    refine lv_iload_n hx hb dX7_about_21 rfl (lv_at hl 2 rfl) ?_
    refine l_lald hx hb hK hP 2 1 rfl rfl (i.toNat) (by omega) (by omega) (by omega) dX7_about_22 ?_
    refine lv_lstore (lv' := [(4, .long (lN ((G) (i.toNat)))), (3, .int (zI (((F (i.toNat) : Nat) : Int)))), (0, .ref y), (1, .int (zI (i))), (2, .int (zI (w)))]) hx hb dX7_about_23 hl (by decide) rfl (fun ls hl => ?_)
    refine lv_iconst (v := zI 0) hx hb dX7_about_25 rfl ?_
    refine lv_istore (lv' := [(6, .int (zI (0))), (4, .long (lN ((G) (i.toNat)))), (3, .int (zI (((F (i.toNat) : Nat) : Int)))), (0, .ref y), (1, .int (zI (i))), (2, .int (zI (w)))]) hx hb dX7_about_26 hl (by decide) rfl (fun ls hl => ?_)
    refine lv_iload_n hx hb dX7_about_28 rfl (lv_at hl 5 rfl) ?_
    rcases (show (w) = 0 ∨ (w) = 1 ∨ (w) = 2 ∨ (w) = 3 ∨ (w) = 4 ∨ ((w) < 0 ∨ 4 < (w)) by omega) with hw29 | hw29 | hw29 | hw29 | hw29 | hw29
    · refine z_tableIn (off := 35) (tgt := 64) hx hb 0 dX7_about_29 (by omega) (by omega) (by omega) rfl (by decide) ?_
      refine lv_iload_n hx hb dX7_about_64 rfl (lv_at hl 2 rfl) ?_
      refine lv_lload hx hb dX7_about_65 (lv_at hl 1 rfl) ?_
      refine vp_callSi (va_runS (As := [.int (zI (((F (i.toNat) : Nat) : Int))), .long (lN ((G) (i.toNat)))]) (rest := []) ⟨hx, hb, hml, hown, hts⟩ (c_X7_peakOf l (F i.toNat) (G i.toNat) h1.2.1 h1.1 h2) (va_cwS 2 hts gX7_about_X7_peakOf rfl rfl rfl (by decide +kernel) ⟨Nat.le_of_ble_eq_true rfl, Nat.le_of_ble_eq_true rfl⟩) ⟨fun a U g mk q => q, fun U hU hW => ⟨rfl, trivial⟩⟩ rfl rfl hl.1 rfl (lv_room (Nat.le_of_ble_eq_true rfl)) dX7_about_67 ⟨Nat.le_of_ble_eq_true rfl, Nat.le_of_ble_eq_true rfl⟩).run (fun r hr67 => ?_)
      obtain rfl := hr67
      exact W.iret (v := (zI (((pkL (F (i.toNat)) ((G) (i.toNat)) (F (i.toNat)) : Nat) : Int)))) hx hb hr (fun tq ht hW => ⟨⟨_, (fm, fd0), rfl, by rw [sp_about, if_pos c5, if_pos hw29], by rw [ht]; exact hP, va_K.moved hW.alike hK, hD⟩, hS.F ht⟩) hS.2.2 dX7_about_70
    · refine z_tableIn (off := 42) (tgt := 71) hx hb 1 dX7_about_29 (by omega) (by omega) (by omega) rfl (by decide) ?_
      refine lv_iload_n hx hb dX7_about_71 rfl (lv_at hl 2 rfl) ?_
      refine lv_lload hx hb dX7_about_72 (lv_at hl 1 rfl) ?_
      refine vp_callSi (va_runS (As := [.int (zI (((F (i.toNat) : Nat) : Int))), .long (lN ((G) (i.toNat)))]) (rest := []) ⟨hx, hb, hml, hown, hts⟩ (c_X7_energyOf l (F i.toNat) (G i.toNat) h1.2.1 h1.1 h2) (va_cwS 2 hts gX7_about_X7_energyOf rfl rfl rfl (by decide +kernel) ⟨Nat.le_of_ble_eq_true rfl, Nat.le_of_ble_eq_true rfl⟩) ⟨fun a U g mk q => q, fun U hU hW => ⟨rfl, trivial⟩⟩ rfl rfl hl.1 rfl (lv_room (Nat.le_of_ble_eq_true rfl)) dX7_about_74 ⟨Nat.le_of_ble_eq_true rfl, Nat.le_of_ble_eq_true rfl⟩).run (fun r hr74 => ?_)
      obtain rfl := hr74
      exact W.iret (v := (zI (enL (F (i.toNat)) ((G) (i.toNat)) (F (i.toNat))))) hx hb hr (fun tq ht hW => ⟨⟨_, (fm, fd0), rfl, by rw [sp_about, if_pos c5, if_neg (by omega), if_pos hw29], by rw [ht]; exact hP, va_K.moved hW.alike hK, hD⟩, hS.F ht⟩) hS.2.2 dX7_about_77
    · refine z_tableIn (off := 49) (tgt := 78) hx hb 2 dX7_about_29 (by omega) (by omega) (by omega) rfl (by decide) ?_
      refine lv_iconst (v := zI 0) hx hb dX7_about_78 rfl ?_
      refine z_re (e2 := ((0 : Nat) : Int)) (rfl) ?_
      refine lv_istore (lv' := [(7, .int (zI (((0 : Nat) : Int)))), (6, .int (zI (0))), (4, .long (lN ((G) (i.toNat)))), (3, .int (zI (((F (i.toNat) : Nat) : Int)))), (0, .ref y), (1, .int (zI (i))), (2, .int (zI (w)))]) hx hb dX7_about_79 hl (by decide) rfl (fun ls hl => ?_)
      have lp81 : ∀ (NN : Nat) (k : Nat) (q1 : k ≤ F i.toNat), F i.toNat - k < NN → ∀ (H : Heap) (locs : List Loc), va_P D vwCl [oM y b (((R : Nat) : Int)) (fm) (kn) (pm0) (lm), aI t (b 0) 24 (cN F), aJ t (b 1) 24 (G), aJ t (b 5) 16 (fd0)] H → va_D AA [oM y b (((R : Nat) : Int)) (fm) (kn) (pm0) (lm), aI t (b 0) 24 (cN F), aJ t (b 1) 24 (G), aJ t (b 5) 16 (fd0)] → va_S AA s.heap H locs → ∀ (ls : Array Slot), lv_has ls 9 [(0, .ref y), (1, .int (zI (i))), (3, .int (zI (((F i.toNat : Nat) : Int)))), (4, .long (lN (G i.toNat))), (6, .int (zI (si (pm (G i.toNat)) k))), (7, .int (zI (k)))] → W p l e (headSpec wsX7_about ({ frames := 3, cells := 0, slots := 0, locals := 81 })).room s m ([.ref y, .int (zI (i)), .int (zI (w))] : List Value).toArray below meth c H locs 0 0 (MQ below (va_Qi (fun r (u : Int × (Nat → Nat)) => r = zI (sp_about R F G i w)) (fun (u : Int × (Nat → Nat)) t1 => va_P D vwCl ([oM y b (((R : Nat) : Int)) (u.1) (kn) (pm0) (lm), aI t (b 0) 24 (cN F), aJ t (b 1) 24 (G), aJ t (b 5) 16 (u.2)]) t1.heap ∧ va_K D vwCl (TY t) t1 ∧ va_D (AA) ([oM y b (((R : Nat) : Int)) (u.1) (kn) (pm0) (lm), aI t (b 0) 24 (cN F), aJ t (b 1) 24 (G), aJ t (b 5) 16 (u.2)])) (AA)) ([.ref y, .int (zI (i)), .int (zI (w))] : List Value).toArray s 0 0 (AA)) (F0 m 81 ls []) := by
        intro NN
        induction NN with
        | zero =>
          intro k q1 hmu
          exact absurd hmu (Nat.not_lt_zero _)
        | succ NN ih81 =>
          intro k q1 hmu H locs hP hD hS ls hl
          refine lv_iload hx hb dX7_about_81 (lv_at hl 5 rfl) ?_
          refine lv_iload_n hx hb dX7_about_83 rfl (lv_at hl 2 rfl) ?_
          refine z_icmp_ge (tgt := 105) hx hb dX7_about_84 (by decide) (by omega) (by omega) (fun c84 => ?_) (fun c84 => ?_)
          · refine lv_iload hx hb dX7_about_105 (lv_at hl 4 rfl) ?_
            exact W.iret (v := (zI (si (pm (G i.toNat)) k))) hx hb hr (fun tq ht hW => ⟨⟨_, (fm, fd0), rfl, by rw [sp_about, if_pos c5, if_neg (by omega), if_neg (by omega), if_pos hw29, show k = F i.toNat by omega]; rfl, by rw [ht]; exact hP, va_K.moved hW.alike hK, hD⟩, hS.F ht⟩) hS.2.2 dX7_about_107
          · refine lv_iload hx hb dX7_about_87 (lv_at hl 4 rfl) ?_
            refine lv_lload hx hb dX7_about_89 (lv_at hl 3 rfl) ?_
            refine lv_iload hx hb dX7_about_91 (lv_at hl 5 rfl) ?_
            refine vp_callSi (va_runS (As := [.long (lN (G i.toNat)), .int (zI (k))]) (rest := [.int (zI (si (pm (G i.toNat)) k))]) ⟨hx, hb, hml, hown, hts⟩ (c_X7_at l (G i.toNat) k h2 (by omega)) (va_cwS 2 hts gX7_about_X7_at rfl rfl rfl (by decide +kernel) ⟨Nat.le_of_ble_eq_true rfl, Nat.le_of_ble_eq_true rfl⟩) ⟨fun a U g mk q => q, fun U hU hW => ⟨rfl, trivial⟩⟩ rfl rfl hl.1 rfl (lv_room (Nat.le_of_ble_eq_true rfl)) dX7_about_93 ⟨Nat.le_of_ble_eq_true rfl, Nat.le_of_ble_eq_true rfl⟩).run (fun r hr93 => ?_)
            obtain rfl := hr93
            refine z_iadd hx hb dX7_about_96 ?_
            refine z_re (e2 := si (pm (G i.toNat)) (k + 1)) (rfl) ?_
            refine lv_istore (lv' := [(6, .int (zI (si (pm (G i.toNat)) (k + 1)))), (0, .ref y), (1, .int (zI (i))), (3, .int (zI (((F i.toNat : Nat) : Int)))), (4, .long (lN (G i.toNat))), (7, .int (zI (k)))]) hx hb dX7_about_97 hl (by decide) rfl (fun ls hl => ?_)
            refine lv_iinc (v := zI (((k + 1 : Nat) : Int))) (lv' := [(7, .int (zI (((k + 1 : Nat) : Int)))), (6, .int (zI (si (pm (G i.toNat)) (k + 1)))), (0, .ref y), (1, .int (zI (i))), (3, .int (zI (((F i.toNat : Nat) : Int)))), (4, .long (lN (G i.toNat)))]) hx hb dX7_about_99 hl (k := 5) rfl (zI_incr (by omega)) (by decide) rfl (fun ls hl => ?_)
            refine lv_goto (tgt := 81) hx hb dX7_about_102 (by decide) ?_
            exact ih81 (k + 1) (by omega) (by omega) _ _ hP hD hS _ (lv_sub hl [2, 3, 4, 5, 1, 0] rfl)
      exact lp81 _ (0) (by omega) (Nat.lt_succ_self _) _ _ hP hD hS _ (lv_sub hl [4, 5, 3, 2, 1, 0] rfl)
    · refine z_tableIn (off := 79) (tgt := 108) hx hb 3 dX7_about_29 (by omega) (by omega) (by omega) rfl (by decide) ?_
      refine lv_iconst (v := zI 1) hx hb dX7_about_108 rfl ?_
      refine z_re (e2 := ((0 + 1 : Nat) : Int)) (rfl) ?_
      refine lv_istore (lv' := [(7, .int (zI (((0 + 1 : Nat) : Int)))), (6, .int (zI (0))), (4, .long (lN ((G) (i.toNat)))), (3, .int (zI (((F (i.toNat) : Nat) : Int)))), (0, .ref y), (1, .int (zI (i))), (2, .int (zI (w)))]) hx hb dX7_about_109 hl (by decide) rfl (fun ls hl => ?_)
      have lp111 : ∀ (NN : Nat) (j : Nat) (q1 : j ≤ F i.toNat - 1), F i.toNat - 1 - j < NN → ∀ (H : Heap) (locs : List Loc), va_P D vwCl [oM y b (((R : Nat) : Int)) (fm) (kn) (pm0) (lm), aI t (b 0) 24 (cN F), aJ t (b 1) 24 (G), aJ t (b 5) 16 (fd0)] H → va_D AA [oM y b (((R : Nat) : Int)) (fm) (kn) (pm0) (lm), aI t (b 0) 24 (cN F), aJ t (b 1) 24 (G), aJ t (b 5) 16 (fd0)] → va_S AA s.heap H locs → ∀ (ls : Array Slot), lv_has ls 9 [(0, .ref y), (1, .int (zI (i))), (3, .int (zI (((F i.toNat : Nat) : Int)))), (4, .long (lN (G i.toNat))), (6, .int (zI (((pc (G i.toNat ^^^ (G i.toNat >>> 1)) j : Nat) : Int)))), (7, .int (zI (((j + 1 : Nat) : Int))))] → W p l e (headSpec wsX7_about ({ frames := 3, cells := 0, slots := 0, locals := 81 })).room s m ([.ref y, .int (zI (i)), .int (zI (w))] : List Value).toArray below meth c H locs 0 0 (MQ below (va_Qi (fun r (u : Int × (Nat → Nat)) => r = zI (sp_about R F G i w)) (fun (u : Int × (Nat → Nat)) t1 => va_P D vwCl ([oM y b (((R : Nat) : Int)) (u.1) (kn) (pm0) (lm), aI t (b 0) 24 (cN F), aJ t (b 1) 24 (G), aJ t (b 5) 16 (u.2)]) t1.heap ∧ va_K D vwCl (TY t) t1 ∧ va_D (AA) ([oM y b (((R : Nat) : Int)) (u.1) (kn) (pm0) (lm), aI t (b 0) 24 (cN F), aJ t (b 1) 24 (G), aJ t (b 5) 16 (u.2)])) (AA)) ([.ref y, .int (zI (i)), .int (zI (w))] : List Value).toArray s 0 0 (AA)) (F0 m 111 ls []) := by
        intro NN
        induction NN with
        | zero =>
          intro j q1 hmu
          exact absurd hmu (Nat.not_lt_zero _)
        | succ NN ih111 =>
          intro j q1 hmu H locs hP hD hS ls hl
          have b1 := pm_or (G i.toNat) (j + 1)
          have b2 := pm_or (G i.toNat) j
          refine lv_iload hx hb dX7_about_111 (lv_at hl 5 rfl) ?_
          refine lv_iload_n hx hb dX7_about_113 rfl (lv_at hl 2 rfl) ?_
          refine z_icmp_ge (tgt := 152) hx hb dX7_about_114 (by decide) (by omega) (by omega) (fun c114 => ?_) (fun c114 => ?_)
          · refine lv_iload hx hb dX7_about_152 (lv_at hl 4 rfl) ?_
            exact W.iret (v := (zI (((pc (G i.toNat ^^^ (G i.toNat >>> 1)) j : Nat) : Int)))) hx hb hr (fun tq ht hW => ⟨⟨_, (fm, fd0), rfl, by rw [sp_about, if_pos c5, if_neg (by omega), if_neg (by omega), if_neg (by omega), if_pos hw29, show j = F i.toNat - 1 by omega]; rfl, by rw [ht]; exact hP, va_K.moved hW.alike hK, hD⟩, hS.F ht⟩) hS.2.2 dX7_about_154
          · refine lv_iload hx hb dX7_about_117 (lv_at hl 4 rfl) ?_
            refine lv_lload hx hb dX7_about_119 (lv_at hl 3 rfl) ?_
            refine lv_iload hx hb dX7_about_121 (lv_at hl 5 rfl) ?_
            refine vp_callSi (va_runS (As := [.long (lN (G i.toNat)), .int (zI (((j + 1 : Nat) : Int)))]) (rest := [.int (zI (((pc (G i.toNat ^^^ (G i.toNat >>> 1)) j : Nat) : Int)))]) ⟨hx, hb, hml, hown, hts⟩ (c_X7_at l (G i.toNat) (j + 1) h2 (by omega)) (va_cwS 2 hts gX7_about_X7_at rfl rfl rfl (by decide +kernel) ⟨Nat.le_of_ble_eq_true rfl, Nat.le_of_ble_eq_true rfl⟩) ⟨fun a U g mk q => q, fun U hU hW => ⟨rfl, trivial⟩⟩ rfl rfl hl.1 rfl (lv_room (Nat.le_of_ble_eq_true rfl)) dX7_about_123 ⟨Nat.le_of_ble_eq_true rfl, Nat.le_of_ble_eq_true rfl⟩).run (fun r hr123 => ?_)
            obtain rfl := hr123
            refine lv_lload hx hb dX7_about_126 (lv_at hl 3 rfl) ?_
            refine lv_iload hx hb dX7_about_128 (lv_at hl 5 rfl) ?_
            refine lv_iconst (v := zI 1) hx hb dX7_about_130 rfl ?_
            refine z_isub hx hb dX7_about_131 ?_
            refine z_re (e2 := ((j : Nat) : Int)) (by omega) ?_
            refine vp_callSi (va_runS (As := [.long (lN (G i.toNat)), .int (zI (((j : Nat) : Int)))]) (rest := [.int (zI (pm (G i.toNat) (j + 1))), .int (zI (((pc (G i.toNat ^^^ (G i.toNat >>> 1)) j : Nat) : Int)))]) ⟨hx, hb, hml, hown, hts⟩ (c_X7_at l (G i.toNat) j h2 (by omega)) (va_cwS 2 hts gX7_about_X7_at rfl rfl rfl (by decide +kernel) ⟨Nat.le_of_ble_eq_true rfl, Nat.le_of_ble_eq_true rfl⟩) ⟨fun a U g mk q => q, fun U hU hW => ⟨rfl, trivial⟩⟩ rfl rfl hl.1 rfl (lv_room (Nat.le_of_ble_eq_true rfl)) dX7_about_132 ⟨Nat.le_of_ble_eq_true rfl, Nat.le_of_ble_eq_true rfl⟩).run (fun r hr132 => ?_)
            obtain rfl := hr132
            refine z_icmp_eq (tgt := 142) hx hb dX7_about_135 (by decide) (by omega) (by omega) (fun c135 => ?_) (fun c135 => ?_)
            · refine lv_iconst (v := zI 0) hx hb dX7_about_142 rfl ?_
              refine z_iadd hx hb dX7_about_143 ?_
              refine z_re (e2 := ((pc (G i.toNat ^^^ (G i.toNat >>> 1)) (j + 1) : Nat) : Int)) (by rw [ch_e c135]; omega) ?_
              refine lv_istore (lv' := [(6, .int (zI (((pc (G i.toNat ^^^ (G i.toNat >>> 1)) (j + 1) : Nat) : Int)))), (0, .ref y), (1, .int (zI (i))), (3, .int (zI (((F i.toNat : Nat) : Int)))), (4, .long (lN (G i.toNat))), (7, .int (zI (((j + 1 : Nat) : Int))))]) hx hb dX7_about_144 hl (by decide) rfl (fun ls hl => ?_)
              refine lv_iinc (v := zI (((j + 1 + 1 : Nat) : Int))) (lv' := [(7, .int (zI (((j + 1 + 1 : Nat) : Int)))), (6, .int (zI (((pc (G i.toNat ^^^ (G i.toNat >>> 1)) (j + 1) : Nat) : Int)))), (0, .ref y), (1, .int (zI (i))), (3, .int (zI (((F i.toNat : Nat) : Int)))), (4, .long (lN (G i.toNat)))]) hx hb dX7_about_146 hl (k := 5) rfl (zI_incr (by omega)) (by decide) rfl (fun ls hl => ?_)
              refine lv_goto (tgt := 111) hx hb dX7_about_149 (by decide) ?_
              exact ih111 (j + 1) (by omega) (by omega) _ _ hP hD hS _ (lv_sub hl [2, 3, 4, 5, 1, 0] rfl)
            · refine lv_iconst (v := zI 1) hx hb dX7_about_138 rfl ?_
              refine lv_goto (tgt := 143) hx hb dX7_about_139 (by decide) ?_
              refine z_iadd hx hb dX7_about_143 ?_
              refine z_re (e2 := ((pc (G i.toNat ^^^ (G i.toNat >>> 1)) (j + 1) : Nat) : Int)) (by rw [ch_n c135]; omega) ?_
              refine lv_istore (lv' := [(6, .int (zI (((pc (G i.toNat ^^^ (G i.toNat >>> 1)) (j + 1) : Nat) : Int)))), (0, .ref y), (1, .int (zI (i))), (3, .int (zI (((F i.toNat : Nat) : Int)))), (4, .long (lN (G i.toNat))), (7, .int (zI (((j + 1 : Nat) : Int))))]) hx hb dX7_about_144 hl (by decide) rfl (fun ls hl => ?_)
              refine lv_iinc (v := zI (((j + 1 + 1 : Nat) : Int))) (lv' := [(7, .int (zI (((j + 1 + 1 : Nat) : Int)))), (6, .int (zI (((pc (G i.toNat ^^^ (G i.toNat >>> 1)) (j + 1) : Nat) : Int)))), (0, .ref y), (1, .int (zI (i))), (3, .int (zI (((F i.toNat : Nat) : Int)))), (4, .long (lN (G i.toNat)))]) hx hb dX7_about_146 hl (k := 5) rfl (zI_incr (by omega)) (by decide) rfl (fun ls hl => ?_)
              refine lv_goto (tgt := 111) hx hb dX7_about_149 (by decide) ?_
              exact ih111 (j + 1) (by omega) (by omega) _ _ hP hD hS _ (lv_sub hl [2, 3, 4, 5, 1, 0] rfl)
      exact lp111 _ (0) (by omega) (Nat.lt_succ_self _) _ _ hP hD hS _ (lv_sub hl [4, 5, 3, 2, 1, 0] rfl)
    · refine z_tableIn (off := 126) (tgt := 155) hx hb 4 dX7_about_29 (by omega) (by omega) (by omega) rfl (by decide) ?_
      refine lv_aload_n hx hb dX7_about_155 rfl (lv_at hl 3 rfl) ?_
      refine lv_iload_n hx hb dX7_about_156 rfl (lv_at hl 2 rfl) ?_
      refine lv_lload hx hb dX7_about_157 (lv_at hl 1 rfl) ?_
      have hPc := hP.sub (ws' := [oM y b (((R : Nat) : Int)) (fm) (kn) (pm0) (lm), aJ t (b 5) 16 (fd0)]) [0, 3] rfl
      have hDc := hD.sub (ws' := [oM y b (((R : Nat) : Int)) (fm) (kn) (pm0) (lm), aJ t (b 5) 16 (fd0)]) [0, 3] (by decide) rfl
      have hFc := va_free (wc := [oM y b (((R : Nat) : Int)) (fm) (kn) (pm0) (lm), aJ t (b 5) 16 (fd0)]) hD hS hA [0, 3] rfl
      refine va_calll (va_runV (As := [.int (zI (((F (i.toNat) : Nat) : Int))), .long (lN ((G) (i.toNat)))]) (rest := []) ⟨hx, hb, hml, hown, hts⟩ (c_X7_turns l D t s.heap.size y b R fm kn pm0 lm fd0 (F i.toNat) (G i.toNat) h1.2.1 h1.2.2) (cwV 2 hts gX7_about_X7_turns rfl rfl rfl (by decide +kernel) ⟨Nat.le_of_ble_eq_true rfl, Nat.le_of_ble_eq_true rfl⟩) ⟨fun a U g mk q => by obtain ⟨q0, q1, qP, qK, qD⟩ := q; exact ⟨q0, q1, qP, va_K.moved (u := U) (U := U.calling g mk a) (Vm.Alike.refl U.vm) qK, qD⟩, va_recv hK hPc (ci := 6) (q0 := 0) rfl rfl, fun U hU hW => ⟨rfl, by rw [hU], by rw [hU]; exact hPc, va_K.moved hW.alike hK, hDc.weaken (fun _ _ _ _ => trivial)⟩⟩ rfl rfl hl.1 rfl (lv_room (Nat.le_of_ble_eq_true rfl)) dX7_about_159 ⟨Nat.le_of_ble_eq_true rfl, Nat.le_of_ble_eq_true rfl⟩) hS (fun q _ h => hFc q h) hFc (fun r u tq H1 locs ht hvm hr159 hB hz1 hk1 hS => ?_)
      obtain ⟨fm_159, fd_159⟩ := u
      obtain ⟨hP1, hK1, hD1⟩ := hB
      rw [ht] at hP1
      obtain ⟨hP, hD⟩ := va_join (wr := [aI t (b 0) 24 (cN F), aJ t (b 1) 24 (G)]) (w1 := [oM y b (((R : Nat) : Int)) (((fm_159 : Nat) : Int)) (kn) (pm0) (lm), aJ t (b 5) 16 (fd_159)]) hP hD [0, 3] [1, 2] rfl rfl (by decide) (by decide) hk1 hFc hP1 hD1
      generalize H1 = H at hP hS ⊢
      have hP : va_P D vwCl [aI t (b 0) 24 (cN F), aJ t (b 1) 24 (G), oM y b (((R : Nat) : Int)) (((fm_159 : Nat) : Int)) (kn) (pm0) (lm), aJ t (b 5) 16 (fd_159)] H := hP
      have hD : va_D AA [aI t (b 0) 24 (cN F), aJ t (b 1) 24 (G), oM y b (((R : Nat) : Int)) (((fm_159 : Nat) : Int)) (kn) (pm0) (lm), aJ t (b 5) 16 (fd_159)] := hD
      obtain ⟨rfl, hc⟩ := hr159
      obtain rfl : fm_159 = cntw (F i.toNat) (G i.toNat) 8 := hc
      refine lv_lstore (lv' := [(7, .long (lN (ltw (F i.toNat) (G i.toNat) 8))), (6, .int (zI (0))), (4, .long (lN ((G) (i.toNat)))), (3, .int (zI (((F (i.toNat) : Nat) : Int)))), (0, .ref y), (1, .int (zI (i))), (2, .int (zI (w)))]) hx hb dX7_about_162 hl (by decide) rfl (fun ls hl => ?_)
      refine lv_aload_n hx hb dX7_about_164 rfl (lv_at hl 4 rfl) ?_
      refine va_get (D := D) (ci := 6) (v := .int (zI ((((cntw (F i.toNat) (G i.toNat) 8) : Nat) : Int)))) (C := RX7) (T := TX7) (N := 16) hx hb hts iX7 hown hK hP 2 rfl rfl 7 (by decide) (hts (.fieldLink RX7 83 "CancelRowsModel" "foundMany" "I") (by decide +kernel)) (fun _ h9 => h9) rfl dX7_about_165 ?_
      have hP := hP.sub (ws' := [oM y b (((R : Nat) : Int)) (((cntw (F i.toNat) (G i.toNat) 8 : Nat) : Int)) (kn) (pm0) (lm), aI t (b 0) 24 (cN F), aJ t (b 1) 24 (G), aJ t (b 5) 16 (fd_159)]) [2, 0, 1, 3] rfl
      have hD := hD.sub (ws' := [oM y b (((R : Nat) : Int)) (((cntw (F i.toNat) (G i.toNat) 8 : Nat) : Int)) (kn) (pm0) (lm), aI t (b 0) 24 (cN F), aJ t (b 1) 24 (G), aJ t (b 5) 16 (fd_159)]) [2, 0, 1, 3] (by decide) rfl
      exact W.iret (v := (zI ((((cntw (F i.toNat) (G i.toNat) 8) : Nat) : Int)))) hx hb hr (fun tq ht hW => ⟨⟨_, (((cntw (F i.toNat) (G i.toNat) 8 : Nat) : Int), fd_159), rfl, by rw [sp_about, if_pos c5, if_neg (by omega), if_neg (by omega), if_neg (by omega), if_neg (by omega), if_pos hw29], by rw [ht]; exact hP, va_K.moved hW.alike hK, hD⟩, hS.F ht⟩) hS.2.2 dX7_about_168
    · refine z_tableOut (tgt := 169) hx hb dX7_about_29 (by omega) (by omega) (by decide) ?_
      refine lv_iconst (v := zI (-1)) hx hb dX7_about_169 rfl ?_
      exact W.iret (v := (zI ((-1)))) hx hb hr (fun tq ht hW => ⟨⟨_, (fm, fd0), rfl, by rw [sp_about, if_pos c5, if_neg (by omega), if_neg (by omega), if_neg (by omega), if_neg (by omega), if_neg (by omega)], by rw [ht]; exact hP, va_K.moved hW.alike hK, hD⟩, hS.F ht⟩) hS.2.2 dX7_about_170
  · refine lv_iconst (v := zI (-1)) hx hb dX7_about_8 rfl ?_
    exact W.iret (v := (zI ((-1)))) hx hb hr (fun tq ht hW => ⟨⟨_, (fm, fd0), rfl, by rw [sp_about, if_neg c5], by rw [ht]; exact hP, va_K.moved hW.alike hK, hD⟩, hS.F ht⟩) hS.2.2 dX7_about_9

-- the check: least
set_option maxHeartbeats 4000000 in
set_option maxRecDepth 100000 in
theorem c_X7_least (l : Launch) (D : va_G) (t : Nat → ClassId) (sz : Nat) (y : Nat) (b : Nat → Nat) (R : Nat) (fm kn pm0 lm : Int) (F G : Nat → Nat) (gV : RV R F G) (fd0 : Nat → Nat) (i : Int) (gi : -2147483648 ≤ i ∧ i < 2147483648) : Met l yX7_least wsX7_least ({ frames := 3, cells := 0, slots := 0, locals := 81 }) (va_Pc [.ref y, .int (zI (i))] (fun U => U.heap.size = sz ∧ va_P D vwCl ([oM y b (((R : Nat) : Int)) (fm) (kn) (pm0) (lm), aI t (b 0) 24 (cN F), aJ t (b 1) 24 (G), aJ t (b 5) 16 (fd0)]) U.heap ∧ va_K D vwCl (TY t) U ∧ va_D (fun _ => True) ([oM y b (((R : Nat) : Int)) (fm) (kn) (pm0) (lm), aI t (b 0) 24 (cN F), aJ t (b 1) 24 (G), aJ t (b 5) 16 (fd0)]))) (va_Ql (fun r (u : Int × (Nat → Nat)) => r = zL (sp_least R F G i)) (fun (u : Int × (Nat → Nat)) t1 => va_P D vwCl ([oM y b (((R : Nat) : Int)) (u.1) (kn) (pm0) (lm), aI t (b 0) 24 (cN F), aJ t (b 1) 24 (G), aJ t (b 5) 16 (u.2)]) t1.heap ∧ va_K D vwCl (TY t) t1 ∧ va_D (va_A ([oM y b (((R : Nat) : Int)) (fm) (kn) (pm0) (lm), aI t (b 0) 24 (cN F), aJ t (b 1) 24 (G), aJ t (b 5) 16 (fd0)]) sz) ([oM y b (((R : Nat) : Int)) (u.1) (kn) (pm0) (lm), aI t (b 0) 24 (cN F), aJ t (b 1) 24 (G), aJ t (b 5) 16 (u.2)])) (va_A ([oM y b (((R : Nat) : Int)) (fm) (kn) (pm0) (lm), aI t (b 0) 24 (cN F), aJ t (b 1) 24 (G), aJ t (b 5) 16 (fd0)]) sz)) 0 0 (va_A ([oM y b (((R : Nat) : Int)) (fm) (kn) (pm0) (lm), aI t (b 0) 24 (cN F), aJ t (b 1) 24 (G), aJ t (b 5) 16 (fd0)]) sz) := by
  refine Met.ofW (cc := cX7_least) (maxL := 2) (ret := (some .long)) (by decide) rfl ?_
  intro p e s m args below meth c s₁ B hml hv
  obtain ⟨rfl, hsz, hP, hK, hD0⟩ := hv
  have hx := B.exec
  have hb := B.bytes
  have hr := B.returns
  have hts := atoms_spec (ws := wsX7_least) B.pre
  have hown : s.vm.findClass RX7 = some m.cls := findClass_of_methodNamed B.named
  have hlocks := B.notSynchronized
  subst hsz
  have hD := hD0.self (sz := s.heap.size)
  generalize hAe : va_A ([oM y b (((R : Nat) : Int)) (fm) (kn) (pm0) (lm), aI t (b 0) 24 (cN F), aJ t (b 1) 24 (G), aJ t (b 5) 16 (fd0)]) s.heap.size = AA at hD ⊢
  have hA : ∀ q : Nat, s.heap.size ≤ q → AA q := fun q h => by rw [← hAe]; exact Or.inr h
  have hS : va_S AA s.heap s.heap [] := va_S.rf
  have hP : va_P D vwCl ([oM y b (((R : Nat) : Int)) (fm) (kn) (pm0) (lm), aI t (b 0) 24 (cN F), aJ t (b 1) 24 (G), aJ t (b 5) 16 (fd0)]) s.heap := hP
  have hl := lv_entry ([.ref y, .int (zI (i))]) (n := 2) (Nat.le_of_ble_eq_true rfl)
  rw [lg_entry_eq]
  generalize (lg_sl ([.ref y, .int (zI (i))]) ++ List.replicate (2 - (lg_sl ([.ref y, .int (zI (i))])).length) Slot.unset).toArray = ls at hl ⊢
  have hl : lv_has ls 2 [(0, .ref y), (1, .int (zI (i)))] := hl
  have iX7 : ∀ w ∈ u_ws RX7 TX7 16, w ∈ wsX7_least := by decide +kernel
  have gR := gV.1
  refine lv_aload_n hx hb dX7_least_0 rfl (lv_at hl 0 rfl) ?_
  refine lv_iload_n hx hb dX7_least_1 rfl (lv_at hl 1 rfl) ?_
  have hPc := hP.sub (ws' := [oM y b (((R : Nat) : Int)) (fm) (kn) (pm0) (lm)]) [0] rfl
  refine vp_callSi (va_runV (As := [.int (zI (i))]) (rest := []) ⟨hx, hb, hml, hown, hts⟩ (c_X7_is l D t y b R fm kn pm0 lm gV.1 i gi) (cwV 1 hts gX7_least_X7_is rfl rfl rfl (by decide +kernel) ⟨Nat.le_of_ble_eq_true rfl, Nat.le_of_ble_eq_true rfl⟩) ⟨fun a U g mk q => ⟨q.1, q.2.1, va_K.moved (u := U) (U := U.calling g mk a) (Vm.Alike.refl U.vm) q.2.2⟩, va_recv hK hPc (ci := 6) (q0 := 0) rfl rfl, fun U hU hW => ⟨rfl, by rw [hU]; exact hPc, va_K.moved hW.alike hK⟩⟩ rfl rfl hl.1 rfl (lv_room (Nat.le_of_ble_eq_true rfl)) dX7_least_2 ⟨Nat.le_of_ble_eq_true rfl, Nat.le_of_ble_eq_true rfl⟩).run (fun r hr2 => ?_)
  obtain rfl := hr2
  refine z_ifb_eq (P := inR R (i)) (tgt := 27) hx hb dX7_least_5 (by decide) (fun c5 => ?_) (fun c5 => ?_)
  · refine lv_ldc2 (v := zL (-1)) hx hb hown (hts (.constantLong RX7 74 (zL (-1))) (by decide +kernel)) dX7_least_27 ?_
    exact W.lret (v := (zL ((-1)))) hx hb hr (fun tq ht hW => ⟨⟨_, (fm, fd0), rfl, by rw [sp_least, if_neg c5], by rw [ht]; exact hP, va_K.moved hW.alike hK, hD⟩, hS.F ht⟩) hS.2.2 dX7_least_30
  · have h1 := RV_at gV c5
    refine lv_aload_n hx hb dX7_least_8 rfl (lv_at hl 0 rfl) ?_
    refine lv_aload_n hx hb dX7_least_9 rfl (lv_at hl 0 rfl) ?_
    refine va_get (D := D) (ci := 6) (v := .ref (b 0)) (C := RX7) (T := TX7) (N := 16) hx hb hts iX7 hown hK hP 0 rfl rfl 1 (by decide) (hts (.fieldLink RX7 7 "CancelRowsModel" "lengths" "[I") (by decide +kernel)) (fun _ h9 => h9) rfl dX7_least_10 ?_
    refine lv_iload_n hx hb dX7_least_13 rfl (lv_at hl 1 rfl) ?_
    refine z_iald hx hb hK hP 1 0 rfl rfl (i.toNat) (by omega) (by omega) (by omega) dX7_least_14 ?_
    refine z_re (e2 := ((F (i.toNat) : Nat) : Int)) (rfl) ?_
    refine lv_aload_n hx hb dX7_least_15 rfl (lv_at hl 0 rfl) ?_
    refine va_get (D := D) (ci := 6) (v := .ref (b 1)) (C := RX7) (T := TX7) (N := 16) hx hb hts iX7 hown hK hP 0 rfl rfl 2 (by decide) (hts (.fieldLink RX7 13 "CancelRowsModel" "numbers" "[J") (by decide +kernel)) (fun _ h9 => h9) rfl dX7_least_16 ?_
    refine lv_iload_n hx hb dX7_least_19 rfl (lv_at hl 1 rfl) ?_
    refine l_lald hx hb hK hP 2 1 rfl rfl (i.toNat) (by omega) (by omega) (by omega) dX7_least_20 ?_
    have hPc := hP.sub (ws' := [oM y b (((R : Nat) : Int)) (fm) (kn) (pm0) (lm), aJ t (b 5) 16 (fd0)]) [0, 3] rfl
    have hDc := hD.sub (ws' := [oM y b (((R : Nat) : Int)) (fm) (kn) (pm0) (lm), aJ t (b 5) 16 (fd0)]) [0, 3] (by decide) rfl
    have hFc := va_free (wc := [oM y b (((R : Nat) : Int)) (fm) (kn) (pm0) (lm), aJ t (b 5) 16 (fd0)]) hD hS hA [0, 3] rfl
    refine va_calll (va_runV (As := [.int (zI (((F (i.toNat) : Nat) : Int))), .long (lN ((G) (i.toNat)))]) (rest := []) ⟨hx, hb, hml, hown, hts⟩ (c_X7_turns l D t s.heap.size y b R fm kn pm0 lm fd0 (F i.toNat) (G i.toNat) h1.2.1 h1.2.2) (cwV 2 hts gX7_least_X7_turns rfl rfl rfl (by decide +kernel) ⟨Nat.le_of_ble_eq_true rfl, Nat.le_of_ble_eq_true rfl⟩) ⟨fun a U g mk q => by obtain ⟨q0, q1, qP, qK, qD⟩ := q; exact ⟨q0, q1, qP, va_K.moved (u := U) (U := U.calling g mk a) (Vm.Alike.refl U.vm) qK, qD⟩, va_recv hK hPc (ci := 6) (q0 := 0) rfl rfl, fun U hU hW => ⟨rfl, by rw [hU], by rw [hU]; exact hPc, va_K.moved hW.alike hK, hDc.weaken (fun _ _ _ _ => trivial)⟩⟩ rfl rfl hl.1 rfl (lv_room (Nat.le_of_ble_eq_true rfl)) dX7_least_21 ⟨Nat.le_of_ble_eq_true rfl, Nat.le_of_ble_eq_true rfl⟩) hS (fun q _ h => hFc q h) hFc (fun r u tq H1 locs ht hvm hr21 hB hz1 hk1 hS => ?_)
    obtain ⟨fm_21, fd_21⟩ := u
    obtain ⟨hP1, hK1, hD1⟩ := hB
    rw [ht] at hP1
    obtain ⟨hP, hD⟩ := va_join (wr := [aI t (b 0) 24 (cN F), aJ t (b 1) 24 (G)]) (w1 := [oM y b (((R : Nat) : Int)) (((fm_21 : Nat) : Int)) (kn) (pm0) (lm), aJ t (b 5) 16 (fd_21)]) hP hD [0, 3] [1, 2] rfl rfl (by decide) (by decide) hk1 hFc hP1 hD1
    generalize H1 = H at hP hS ⊢
    have hP : va_P D vwCl [aI t (b 0) 24 (cN F), aJ t (b 1) 24 (G), oM y b (((R : Nat) : Int)) (((fm_21 : Nat) : Int)) (kn) (pm0) (lm), aJ t (b 5) 16 (fd_21)] H := hP
    have hD : va_D AA [aI t (b 0) 24 (cN F), aJ t (b 1) 24 (G), oM y b (((R : Nat) : Int)) (((fm_21 : Nat) : Int)) (kn) (pm0) (lm), aJ t (b 5) 16 (fd_21)] := hD
    obtain ⟨rfl, hc⟩ := hr21
    obtain rfl : fm_21 = cntw (F i.toNat) (G i.toNat) 8 := hc
    refine lv_goto (tgt := 30) hx hb dX7_least_24 (by decide) ?_
    have hP := hP.sub (ws' := [oM y b (((R : Nat) : Int)) (((cntw (F i.toNat) (G i.toNat) 8 : Nat) : Int)) (kn) (pm0) (lm), aI t (b 0) 24 (cN F), aJ t (b 1) 24 (G), aJ t (b 5) 16 (fd_21)]) [2, 0, 1, 3] rfl
    have hD := hD.sub (ws' := [oM y b (((R : Nat) : Int)) (((cntw (F i.toNat) (G i.toNat) 8 : Nat) : Int)) (kn) (pm0) (lm), aI t (b 0) 24 (cN F), aJ t (b 1) 24 (G), aJ t (b 5) 16 (fd_21)]) [2, 0, 1, 3] (by decide) rfl
    exact W.lret (v := (lN (ltw (F i.toNat) (G i.toNat) 8))) hx hb hr (fun tq ht hW => ⟨⟨_, (((cntw (F i.toNat) (G i.toNat) 8 : Nat) : Int), fd_21), rfl, by rw [sp_least, if_pos c5, zL_lN], by rw [ht]; exact hP, va_K.moved hW.alike hK, hD⟩, hS.F ht⟩) hS.2.2 dX7_least_30
