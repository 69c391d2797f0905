/-! pairs and pair of the class -/
theorem sp_pairs_n {n : Nat} {what : Int} (gn : 1 ≤ n ∧ n ≤ 8) (gw : 0 ≤ what ∧ what ≤ 3) : sp_pairs (n : Int) what = (if what = 0 then ((aA n).length : Int) else if what = 1 then ((aK n).length : Int) else if (aA n).length = 0 then -4 else if what = 2 then ((hdd (aA n)) / 1000 : Nat) else ((hdd (aA n)) % 1000 : Nat)) := by
  unfold sp_pairs
  rw [if_pos (by omega), Int.toNat_natCast]
theorem sp_pair_n {n : Nat} {i : Int} (gn : 1 ≤ n ∧ n ≤ 8) (gi : 0 ≤ i) : sp_pair (n : Int) i = if i < ((aK n).length : Int) then (atL (aK n) i.toNat : Int) else -4 := by
  unfold sp_pair
  rw [if_pos (by omega), Int.toNat_natCast]
theorem atL_lt {n i : Nat} (gn : 1 ≤ n ∧ n ≤ 8) (hi : i < (aK n).length) : atL (aK n) i < 33047 := by
  have p := (pairs_all gn).2.2.2.2.2.1
  have e : (aK n)[i]? = some (aK n)[i] := List.getElem?_eq_getElem hi
  have e2 : atL (aK n) i = (aK n)[i] := by unfold atL; rw [e]; rfl
  rw [e2]
  exact p _ (List.getElem_mem hi)
-- pairListOf, known
set_option maxHeartbeats 4000000 in
set_option maxRecDepth 100000 in
theorem c_X6_pairListOf_s (l : Launch) (D : va_G) (t : Nat → ClassId) (x : Nat) (a : Nat → Nat) (R : Nat) (pl : Nat → Option Nat) (q : Nat) (n : Nat) (gn : 1 ≤ n ∧ n ≤ 8) (hs : pl n = some q) : Met l yX6_pairListOf wsX6_pairListOf ({ frames := 0, cells := 0, slots := 0, locals := 0 }) (va_Pc [.ref x, .int (zI (n))] (fun U => va_P D vwCl ([oX x a (((R : Nat) : Int)), aQ t 4 (a 3) 9 (pl)]) U.heap ∧ va_K D vwCl (TY t) U)) (va_Sq (fun r => r = some q)) 0 0 (fun _ => False) := by
  refine Met.ofW (cc := cX6_pairListOf) (maxL := 2) (ret := (some (.object "CancelRows$PairList"))) (by decide) rfl ?_
  intro p e s m args below meth c s₁ B hml hv
  obtain ⟨rfl, hP, hK⟩ := hv
  have hx := B.exec
  have hb := B.bytes
  have hr := B.returns
  have hts := atoms_spec (ws := wsX6_pairListOf) B.pre
  have hown : s.vm.findClass RX6 = some m.cls := findClass_of_methodNamed B.named
  have hlocks := B.notSynchronized
  have hl := lv_entry ([.ref x, .int (zI (n))]) (n := 2) (Nat.le_of_ble_eq_true rfl)
  rw [lg_entry_eq]
  generalize (lg_sl ([.ref x, .int (zI (n))]) ++ List.replicate (2 - (lg_sl ([.ref x, .int (zI (n))])).length) Slot.unset).toArray = ls at hl ⊢
  have hl : lv_has ls 2 [(0, .ref x), (1, .int (zI (n)))] := hl
  have iX6 : ∀ w ∈ u_ws RX6 TX6 7, w ∈ wsX6_pairListOf := by decide +kernel
  refine lv_aload_n hx hb dX6_pairListOf_0 rfl (lv_at hl 0 rfl) ?_
  refine va_get (D := D) (ci := 5) (v := .ref (a 3)) (C := RX6) (T := TX6) (N := 7) hx hb hts iX6 hown hK hP 0 rfl rfl 3 (by decide) (hts (.fieldLink RX6 25 "CancelRows" "pairLists" "[LCancelRows$PairList;") (by decide +kernel)) (fun _ h9 => h9) rfl dX6_pairListOf_1 ?_
  refine lv_iload_n hx hb dX6_pairListOf_4 rfl (lv_at hl 1 rfl) ?_
  refine q_aald hx hb hK hP 1 4 rfl rfl (n) (by omega) (by omega) (by omega) dX6_pairListOf_5 ?_
  refine q_some (x := q) (hs) ?_
  refine lv_ifnonnull (tgt := 23) hx hb dX6_pairListOf_6 (by decide) ?_
  refine lv_aload_n hx hb dX6_pairListOf_23 rfl (lv_at hl 0 rfl) ?_
  refine va_get (D := D) (ci := 5) (v := .ref (a 3)) (C := RX6) (T := TX6) (N := 7) hx hb hts iX6 hown hK hP 0 rfl rfl 3 (by decide) (hts (.fieldLink RX6 25 "CancelRows" "pairLists" "[LCancelRows$PairList;") (by decide +kernel)) (fun _ h9 => h9) rfl dX6_pairListOf_24 ?_
  refine lv_iload_n hx hb dX6_pairListOf_27 rfl (lv_at hl 1 rfl) ?_
  refine q_aald hx hb hK hP 1 4 rfl rfl (n) (by omega) (by omega) (by omega) dX6_pairListOf_28 ?_
  refine q_some (x := q) (hs) ?_
  exact W.aret (v := .ref q) hx hb hr (by first | exact Or.inl ⟨_, rfl⟩ | exact Or.inr ⟨_, rfl⟩) (Or.inr ⟨_, rfl⟩) (fun tq ht hW => ⟨some (q), rfl, rfl, ht⟩) (fun q h => by cases h) dX6_pairListOf_29

-- pairListOf, new
set_option maxHeartbeats 4000000 in
set_option maxRecDepth 100000 in
theorem c_X6_pairListOf_n (l : Launch) (D : va_G) (t : Nat → ClassId) (sz : Nat) (ad : Nat → Nat) (d0 tc : Nat) (x : Nat) (a : Nat → Nat) (R : Nat) (pl : Nat → Option Nat) (n : Nat) (gn : 1 ≤ n ∧ n ≤ 8) (hs : pl n = none) : Met l yX6_pairListOf wsX6_pairListOf ({ frames := 7, cells := 12, slots := 60, locals := 165 }) (va_Pc [.ref x, .int (zI (n))] (fun U => U.heap.size = sz ∧ va_P D vwCl ([oX x a (((R : Nat) : Int)), aQ t 4 (a 3) 9 (pl)]) U.heap ∧ va_K D vwCl (TY t) U ∧ va_D (fun _ => True) ([oX x a (((R : Nat) : Int)), aQ t 4 (a 3) 9 (pl)]) ∧ jK ad d0 tc (va_A ([oX x a (((R : Nat) : Int)), aQ t 4 (a 3) 9 (pl)]) sz) U U.heap)) (va_Qr (fun (u : Nat × Nat × Int × (Nat → Option Nat) × List Nat × (Nat → Int32)) => lsOK ad u.2.2.2.2.1 u.2.2.2.2.2 u.2.2.2.1 (aK n) ∧ ((aK n).length = 0 → u.2.1 = d0)) (fun (u : Nat × Nat × Int × (Nat → Option Nat) × List Nat × (Nat → Int32)) (r : Nat) t1 => va_P D vwCl (([oX x a (((R : Nat) : Int)), aQ t 4 (a 3) 9 (va_up pl n (some (r))), (r, .inr (3, [.int (zI ((((aA n).length : Nat) : Int))), .ref u.1])), (u.1, .inr (1, [.int (zI (u.2.2.1)), .ref u.2.1, .int (zI ((((aK n).length : Nat) : Int)))]))] ++ TT t (u.2.1) ((aK n).length) (u.2.2.2.1) (u.2.2.2.2.1) (u.2.2.2.2.2))) t1.heap ∧ va_K D vwCl (TY t) t1 ∧ va_D (va_A ([oX x a (((R : Nat) : Int)), aQ t 4 (a 3) 9 (pl)]) sz) (([oX x a (((R : Nat) : Int)), aQ t 4 (a 3) 9 (va_up pl n (some (r))), (r, .inr (3, [.int (zI ((((aA n).length : Nat) : Int))), .ref u.1])), (u.1, .inr (1, [.int (zI (u.2.2.1)), .ref u.2.1, .int (zI ((((aK n).length : Nat) : Int)))]))] ++ TT t (u.2.1) ((aK n).length) (u.2.2.2.1) (u.2.2.2.2.1) (u.2.2.2.2.2)))) (va_A ([oX x a (((R : Nat) : Int)), aQ t 4 (a 3) 9 (pl)]) sz)) 12 60 (va_A ([oX x a (((R : Nat) : Int)), aQ t 4 (a 3) 9 (pl)]) sz) := by
  refine Met.ofW (cc := cX6_pairListOf) (maxL := 2) (ret := (some (.object "CancelRows$PairList"))) (by decide) rfl ?_
  intro p e s m args below meth c s₁ B hml hv
  obtain ⟨rfl, hsz, hP, hK, hD0, hJ⟩ := hv
  have hx := B.exec
  have hb := B.bytes
  have hr := B.returns
  have hts := atoms_spec (ws := wsX6_pairListOf) B.pre
  have hown : s.vm.findClass RX6 = some m.cls := findClass_of_methodNamed B.named
  have hlocks := B.notSynchronized
  subst hsz
  have hD := hD0.self (sz := s.heap.size)
  generalize hAe : va_A ([oX x a (((R : Nat) : Int)), aQ t 4 (a 3) 9 (pl)]) s.heap.size = AA at hD hJ ⊢
  have hA : ∀ q : Nat, s.heap.size ≤ q → AA q := fun q h => by rw [← hAe]; exact Or.inr h
  have hS : va_S AA s.heap s.heap [] := va_S.rf
  have hP : va_P D vwCl ([oX x a (((R : Nat) : Int)), aQ t 4 (a 3) 9 (pl)]) s.heap := hP
  have hl := lv_entry ([.ref x, .int (zI (n))]) (n := 2) (Nat.le_of_ble_eq_true rfl)
  rw [lg_entry_eq]
  generalize (lg_sl ([.ref x, .int (zI (n))]) ++ List.replicate (2 - (lg_sl ([.ref x, .int (zI (n))])).length) Slot.unset).toArray = ls at hl ⊢
  have hl : lv_has ls 2 [(0, .ref x), (1, .int (zI (n)))] := hl
  have iX1 : ∀ w ∈ u_ws RX1 TX1 2, w ∈ wsX6_pairListOf := by decide +kernel
  have iX6 : ∀ w ∈ u_ws RX6 TX6 7, w ∈ wsX6_pairListOf := by decide +kernel
  refine lv_aload_n hx hb dX6_pairListOf_0 rfl (lv_at hl 0 rfl) ?_
  refine va_get (D := D) (ci := 5) (v := .ref (a 3)) (C := RX6) (T := TX6) (N := 7) hx hb hts iX6 hown hK hP 0 rfl rfl 3 (by decide) (hts (.fieldLink RX6 25 "CancelRows" "pairLists" "[LCancelRows$PairList;") (by decide +kernel)) (fun _ h9 => h9) rfl dX6_pairListOf_1 ?_
  refine lv_iload_n hx hb dX6_pairListOf_4 rfl (lv_at hl 1 rfl) ?_
  refine q_aald hx hb hK hP 1 4 rfl rfl (n) (by omega) (by omega) (by omega) dX6_pairListOf_5 ?_
  refine q_none (hs) ?_
  refine lv_ifnonnullN hx hb dX6_pairListOf_6 ?_
  refine lv_aload_n hx hb dX6_pairListOf_9 rfl (lv_at hl 0 rfl) ?_
  refine va_get (D := D) (ci := 5) (v := .ref (a 3)) (C := RX6) (T := TX6) (N := 7) hx hb hts iX6 hown hK hP 0 rfl rfl 3 (by decide) (hts (.fieldLink RX6 25 "CancelRows" "pairLists" "[LCancelRows$PairList;") (by decide +kernel)) (fun _ h9 => h9) rfl dX6_pairListOf_10 ?_
  refine lv_iload_n hx hb dX6_pairListOf_13 rfl (lv_at hl 1 rfl) ?_
  refine va_new (ci := 3) (fs := [.int (zI (0)), .null]) (C := RX1) (T := TX1) (N := 2) hx hb hts iX1 tyX1 tyX1_ok hown (hts (.classLink RX6 23 RX1) (by decide +kernel)) (hts (.instantiable RX1 2) (by decide +kernel)) (hts (.initialized RX1) (by decide +kernel)) hK hP hD hS hA rfl (fun j hj => by rcases (show j = 0 ∨ j = 1 by omega) with rfl | rfl <;> rfl) (Nat.le_of_ble_eq_true rfl) (Nat.le_of_ble_eq_true rfl) dX6_pairListOf_14 (fun q14 H hP hD hS => ?_)
  have hP : va_P D vwCl [oX x a (((R : Nat) : Int)), aQ t 4 (a 3) 9 (pl), (q14, .inr (3, [.int (zI (0)), .null]))] H := hP
  have hD : va_D AA [oX x a (((R : Nat) : Int)), aQ t 4 (a 3) 9 (pl), (q14, .inr (3, [.int (zI (0)), .null]))] := hD
  refine W.widen (k := 1) (n := 2) (by omega) (by omega) ?_
  refine lv_dup hx hb dX6_pairListOf_17 rfl ?_
  refine lv_iload_n hx hb dX6_pairListOf_18 rfl (lv_at hl 1 rfl) ?_
  have hPc := hP.sub (ws' := [(q14, .inr (3, [.int (zI (0)), .null]))]) [2] rfl
  have hDc := hD.sub (ws' := [(q14, .inr (3, [.int (zI (0)), .null]))]) [2] (by decide) rfl
  have hFc := va_free (wc := [(q14, .inr (3, [.int (zI (0)), .null]))]) hD hS hA [2] rfl
  refine va_callv (va_runI (As := [.int (zI (n))]) (rest := [.ref q14, .int (zI (n)), .ref (a 3)]) ⟨hx, hb, hml, hown, hts⟩ (c_X1_init l D t H.size ad d0 tc q14 n gn) (cwI 1 hts gX6_pairListOf_X1_init rfl rfl rfl (hts (.initialized RX1) (by decide +kernel)) (hts (.methodLink RX6 195 yX1_init) (by decide +kernel)) (hts (.instanceMethod yX1_init) (by decide +kernel)) rfl (by decide +kernel) ⟨Nat.le_of_ble_eq_true rfl, Nat.le_of_ble_eq_true rfl⟩) ⟨fun a U g mk q => by obtain ⟨q0, q1, qP, qK, qD, qS0⟩ := q; exact ⟨q0, q1, qP, va_K.moved (u := U) (U := U.calling g mk a) (Vm.Alike.refl U.vm) qK, qD, qS0.moved (u := U) (U := U.calling g mk a) (Vm.Alike.refl U.vm)⟩, fun U hU hW => ⟨rfl, by rw [hU], by rw [hU]; exact hPc, va_K.moved hW.alike hK, hDc.weaken (fun _ _ _ _ => trivial), by rw [hU]; exact (((hJ.kept hS.2.1).narrow hFc)).moved hW.alike⟩⟩ rfl rfl hl.1 rfl (lv_room (Nat.le_of_ble_eq_true rfl)) dX6_pairListOf_19 ⟨Nat.le_of_ble_eq_true rfl, Nat.le_of_ble_eq_true rfl⟩) hS (fun q _ h => hFc q h) hFc (fun u tq H1 locs ht hvm hr19 hB hz1 hk1 hS => ?_)
  obtain ⟨li9, eA9, mo9, f9, LP9, pv9⟩ := u
  obtain ⟨hP1, hK1, hD1⟩ := hB
  rw [ht] at hP1
  obtain ⟨hP, hD⟩ := va_join (wr := [oX x a (((R : Nat) : Int)), aQ t 4 (a 3) 9 (pl)]) (w1 := ([(q14, .inr (3, [.int (zI ((((aA n).length : Nat) : Int))), .ref li9])), (li9, .inr (1, [.int (zI (mo9)), .ref eA9, .int (zI ((((aK n).length : Nat) : Int)))]))] ++ TT t (eA9) ((aK n).length) (f9) (LP9) (pv9))) hP hD [2] [0, 1] rfl rfl (by decide) (by decide) hk1 hFc hP1 hD1
  generalize H1 = H at hP hS ⊢
  have hP : va_P D vwCl ([oX x a (((R : Nat) : Int)), aQ t 4 (a 3) 9 (pl), (q14, .inr (3, [.int (zI ((((aA n).length : Nat) : Int))), .ref li9])), (li9, .inr (1, [.int (zI (mo9)), .ref eA9, .int (zI ((((aK n).length : Nat) : Int)))]))] ++ TT t (eA9) ((aK n).length) (f9) (LP9) (pv9)) H := hP
  have hD : va_D AA ([oX x a (((R : Nat) : Int)), aQ t 4 (a 3) 9 (pl), (q14, .inr (3, [.int (zI ((((aA n).length : Nat) : Int))), .ref li9])), (li9, .inr (1, [.int (zI (mo9)), .ref eA9, .int (zI ((((aK n).length : Nat) : Int)))]))] ++ TT t (eA9) ((aK n).length) (f9) (LP9) (pv9)) := hD
  try dsimp only at hr19
  refine q_aast hx hb hK hP hD hS 1 4 2 3 rfl rfl rfl rfl (n) (by omega) (by omega) (by omega) dX6_pairListOf_22 (fun H locs hP hD hS => ?_)
  have hP : va_P D vwCl ([oX x a (((R : Nat) : Int)), aQ t 4 (a 3) 9 (va_up (pl) (n) (some (q14))), (q14, .inr (3, [.int (zI ((((aA n).length : Nat) : Int))), .ref li9])), (li9, .inr (1, [.int (zI (mo9)), .ref eA9, .int (zI ((((aK n).length : Nat) : Int)))]))] ++ TT t (eA9) ((aK n).length) (f9) (LP9) (pv9)) H := hP
  have hD : va_D AA ([oX x a (((R : Nat) : Int)), aQ t 4 (a 3) 9 (va_up (pl) (n) (some (q14))), (q14, .inr (3, [.int (zI ((((aA n).length : Nat) : Int))), .ref li9])), (li9, .inr (1, [.int (zI (mo9)), .ref eA9, .int (zI ((((aK n).length : Nat) : Int)))]))] ++ TT t (eA9) ((aK n).length) (f9) (LP9) (pv9)) := hD
  refine lv_aload_n hx hb dX6_pairListOf_23 rfl (lv_at hl 0 rfl) ?_
  refine va_get (D := D) (ci := 5) (v := .ref (a 3)) (C := RX6) (T := TX6) (N := 7) hx hb hts iX6 hown hK hP 0 rfl rfl 3 (by decide) (hts (.fieldLink RX6 25 "CancelRows" "pairLists" "[LCancelRows$PairList;") (by decide +kernel)) (fun _ h9 => h9) rfl dX6_pairListOf_24 ?_
  refine lv_iload_n hx hb dX6_pairListOf_27 rfl (lv_at hl 1 rfl) ?_
  refine q_aald hx hb hK hP 1 4 rfl rfl (n) (by omega) (by omega) (by omega) dX6_pairListOf_28 ?_
  refine q_some (x := q14) (by rw [va_up, if_pos rfl]) ?_
  have hP := hP.part (X := [oX x a (((R : Nat) : Int)), aQ t 4 (a 3) 9 (va_up (pl) (n) (some (q14))), (q14, .inr (3, [.int (zI ((((aA n).length : Nat) : Int))), .ref li9])), (li9, .inr (1, [.int (zI (mo9)), .ref eA9, .int (zI ((((aK n).length : Nat) : Int)))]))]) (cx := [oX x a (((R : Nat) : Int)), aQ t 4 (a 3) 9 (va_up pl n (some (q14))), (q14, .inr (3, [.int (zI ((((aA n).length : Nat) : Int))), .ref li9])), (li9, .inr (1, [.int (zI (mo9)), .ref eA9, .int (zI ((((aK n).length : Nat) : Int)))]))]) (pl := TT t (eA9) ((aK n).length) (f9) (LP9) (pv9)) [0, 1, 2, 3] rfl
  have hD := hD.part (X := [oX x a (((R : Nat) : Int)), aQ t 4 (a 3) 9 (va_up (pl) (n) (some (q14))), (q14, .inr (3, [.int (zI ((((aA n).length : Nat) : Int))), .ref li9])), (li9, .inr (1, [.int (zI (mo9)), .ref eA9, .int (zI ((((aK n).length : Nat) : Int)))]))]) (cx := [oX x a (((R : Nat) : Int)), aQ t 4 (a 3) 9 (va_up pl n (some (q14))), (q14, .inr (3, [.int (zI ((((aA n).length : Nat) : Int))), .ref li9])), (li9, .inr (1, [.int (zI (mo9)), .ref eA9, .int (zI ((((aK n).length : Nat) : Int)))]))]) (pl := TT t (eA9) ((aK n).length) (f9) (LP9) (pv9)) [0, 1, 2, 3] (by decide) rfl
  exact W.aret (v := .ref q14) hx hb hr (by first | exact Or.inl ⟨_, rfl⟩ | exact Or.inr ⟨_, rfl⟩) (Or.inr ⟨_, rfl⟩) (fun tq ht hW => ⟨⟨(li9, eA9, mo9, f9, LP9, pv9), _, rfl, hr19, by rw [ht]; exact hP, va_K.moved hW.alike hK, hD⟩, hS.F ht⟩) hS.2.2 dX6_pairListOf_29

-- pairs, refused
set_option maxHeartbeats 4000000 in
set_option maxRecDepth 100000 in
theorem c_X6_pairs_bad (l : Launch) (x : Nat) (n what : Int) (gn : -2147483648 ≤ n ∧ n < 2147483648) (gwhat : -2147483648 ≤ what ∧ what < 2147483648) (hb0 : ¬ (1 ≤ n ∧ n ≤ 8 ∧ 0 ≤ what ∧ what ≤ 3)) : Met l yX6_pairs wsX6_pairs ({ frames := 1, cells := 0, slots := 0, locals := 22 }) (va_Pc [.ref x, .int (zI (n)), .int (zI (what))] (fun _ => True)) (vp_Si (fun r => r = zI (-1))) 0 0 (fun _ => False) := by
  refine Met.ofW (cc := cX6_pairs) (maxL := 4) (ret := (some .int)) (by decide) rfl ?_
  intro p e s m args below meth c s₁ B hml hv
  obtain ⟨rfl, -⟩ := hv
  have hx := B.exec
  have hb := B.bytes
  have hr := B.returns
  have hts := atoms_spec (ws := wsX6_pairs) B.pre
  have hown : s.vm.findClass RX6 = some m.cls := findClass_of_methodNamed B.named
  have hlocks := B.notSynchronized
  have hl := lv_entry ([.ref x, .int (zI (n)), .int (zI (what))]) (n := 4) (Nat.le_of_ble_eq_true rfl)
  rw [lg_entry_eq]
  generalize (lg_sl ([.ref x, .int (zI (n)), .int (zI (what))]) ++ List.replicate (4 - (lg_sl ([.ref x, .int (zI (n)), .int (zI (what))])).length) Slot.unset).toArray = ls at hl ⊢
  have hl : lv_has ls 4 [(0, .ref x), (1, .int (zI (n))), (2, .int (zI (what)))] := hl
  refine lv_iload_n hx hb dX6_pairs_0 rfl (lv_at hl 1 rfl) ?_
  refine lv_iconst (v := zI 1) hx hb dX6_pairs_1 rfl ?_
  refine lv_bipush (v := zI 8) hx hb dX6_pairs_2 (by decide +kernel) ?_
  refine vp_callSi (va_runS (As := [.int (zI (n)), .int (zI (1)), .int (zI (8))]) (rest := []) ⟨hx, hb, hml, hown, hts⟩ (c_X6_within l n 1 8 gn (by omega) (by omega)) (va_cwS 3 hts gX6_pairs_X6_within rfl rfl rfl (by decide +kernel) ⟨Nat.le_of_ble_eq_true rfl, Nat.le_of_ble_eq_true rfl⟩) ⟨fun a U g mk q => q, fun U hU hW => ⟨rfl, trivial⟩⟩ rfl rfl hl.1 rfl (lv_room (Nat.le_of_ble_eq_true rfl)) dX6_pairs_4 ⟨Nat.le_of_ble_eq_true rfl, Nat.le_of_ble_eq_true rfl⟩).run (fun r hr4 => ?_)
  obtain rfl := hr4
  refine z_ifb_eq (P := (1) ≤ (n) ∧ (n) ≤ (8)) (tgt := 19) hx hb dX6_pairs_7 (by decide) (fun c7 => ?_) (fun c7 => ?_)
  · refine lv_iconst (v := zI (-1)) hx hb dX6_pairs_19 rfl ?_
    exact W.iret (v := (zI ((-1)))) hx hb hr (fun tq ht hW => ⟨_, rfl, rfl, ht⟩) (fun q h => by cases h) dX6_pairs_20
  · refine lv_iload_n hx hb dX6_pairs_10 rfl (lv_at hl 2 rfl) ?_
    refine lv_iconst (v := zI 0) hx hb dX6_pairs_11 rfl ?_
    refine lv_iconst (v := zI 3) hx hb dX6_pairs_12 rfl ?_
    refine vp_callSi (va_runS (As := [.int (zI (what)), .int (zI (0)), .int (zI (3))]) (rest := []) ⟨hx, hb, hml, hown, hts⟩ (c_X6_within l what 0 3 gwhat (by omega) (by omega)) (va_cwS 3 hts gX6_pairs_X6_within rfl rfl rfl (by decide +kernel) ⟨Nat.le_of_ble_eq_true rfl, Nat.le_of_ble_eq_true rfl⟩) ⟨fun a U g mk q => q, fun U hU hW => ⟨rfl, trivial⟩⟩ rfl rfl hl.1 rfl (lv_room (Nat.le_of_ble_eq_true rfl)) dX6_pairs_13 ⟨Nat.le_of_ble_eq_true rfl, Nat.le_of_ble_eq_true rfl⟩).run (fun r hr13 => ?_)
    obtain rfl := hr13
    refine z_ifb_ne (P := (0) ≤ (what) ∧ (what) ≤ (3)) (tgt := 21) hx hb dX6_pairs_16 (by decide) (fun c16 => ?_) (fun c16 => ?_)
    · omega
    · refine lv_iconst (v := zI (-1)) hx hb dX6_pairs_19 rfl ?_
      exact W.iret (v := (zI ((-1)))) hx hb hr (fun tq ht hW => ⟨_, rfl, rfl, ht⟩) (fun q h => by cases h) dX6_pairs_20

-- pair, refused
set_option maxHeartbeats 4000000 in
set_option maxRecDepth 100000 in
theorem c_X6_pair_bad (l : Launch) (x : Nat) (n i : Int) (gn : -2147483648 ≤ n ∧ n < 2147483648) (gi : -2147483648 ≤ i ∧ i < 2147483648) (hb0 : ¬ (1 ≤ n ∧ n ≤ 8 ∧ 0 ≤ i)) : Met l yX6_pair wsX6_pair ({ frames := 1, cells := 0, slots := 0, locals := 22 }) (va_Pc [.ref x, .int (zI (n)), .int (zI (i))] (fun _ => True)) (vp_Si (fun r => r = zI (-1))) 0 0 (fun _ => False) := by
  refine Met.ofW (cc := cX6_pair) (maxL := 4) (ret := (some .int)) (by decide) rfl ?_
  intro p e s m args below meth c s₁ B hml hv
  obtain ⟨rfl, -⟩ := hv
  have hx := B.exec
  have hb := B.bytes
  have hr := B.returns
  have hts := atoms_spec (ws := wsX6_pair) B.pre
  have hown : s.vm.findClass RX6 = some m.cls := findClass_of_methodNamed B.named
  have hlocks := B.notSynchronized
  have hl := lv_entry ([.ref x, .int (zI (n)), .int (zI (i))]) (n := 4) (Nat.le_of_ble_eq_true rfl)
  rw [lg_entry_eq]
  generalize (lg_sl ([.ref x, .int (zI (n)), .int (zI (i))]) ++ List.replicate (4 - (lg_sl ([.ref x, .int (zI (n)), .int (zI (i))])).length) Slot.unset).toArray = ls at hl ⊢
  have hl : lv_has ls 4 [(0, .ref x), (1, .int (zI (n))), (2, .int (zI (i)))] := hl
  refine lv_iload_n hx hb dX6_pair_0 rfl (lv_at hl 1 rfl) ?_
  refine lv_iconst (v := zI 1) hx hb dX6_pair_1 rfl ?_
  refine lv_bipush (v := zI 8) hx hb dX6_pair_2 (by decide +kernel) ?_
  refine vp_callSi (va_runS (As := [.int (zI (n)), .int (zI (1)), .int (zI (8))]) (rest := []) ⟨hx, hb, hml, hown, hts⟩ (c_X6_within l n 1 8 gn (by omega) (by omega)) (va_cwS 3 hts gX6_pair_X6_within rfl rfl rfl (by decide +kernel) ⟨Nat.le_of_ble_eq_true rfl, Nat.le_of_ble_eq_true rfl⟩) ⟨fun a U g mk q => q, fun U hU hW => ⟨rfl, trivial⟩⟩ rfl rfl hl.1 rfl (lv_room (Nat.le_of_ble_eq_true rfl)) dX6_pair_4 ⟨Nat.le_of_ble_eq_true rfl, Nat.le_of_ble_eq_true rfl⟩).run (fun r hr4 => ?_)
  obtain rfl := hr4
  refine z_ifb_eq (P := (1) ≤ (n) ∧ (n) ≤ (8)) (tgt := 14) hx hb dX6_pair_7 (by decide) (fun c7 => ?_) (fun c7 => ?_)
  · refine lv_iconst (v := zI (-1)) hx hb dX6_pair_14 rfl ?_
    exact W.iret (v := (zI ((-1)))) hx hb hr (fun tq ht hW => ⟨_, rfl, rfl, ht⟩) (fun q h => by cases h) dX6_pair_15
  · refine lv_iload_n hx hb dX6_pair_10 rfl (lv_at hl 2 rfl) ?_
    refine z_if_ge (tgt := 16) hx hb dX6_pair_11 (by decide) (by omega) (fun c11 => ?_) (fun c11 => ?_)
    · omega
    · refine lv_iconst (v := zI (-1)) hx hb dX6_pair_14 rfl ?_
      exact W.iret (v := (zI ((-1)))) hx hb hr (fun tq ht hW => ⟨_, rfl, rfl, ht⟩) (fun q h => by cases h) dX6_pair_15

-- pairs, known
set_option maxHeartbeats 4000000 in
set_option maxRecDepth 100000 in
theorem c_X6_pairs_s (l : Launch) (D : va_G) (t : Nat → ClassId) (ad : Nat → Nat) (d0 tc : Nat) (x : Nat) (a : Nat → Nat) (R : Nat) (pl : Nat → Option Nat) (q li eA : Nat) (mo : Int) (f : Nat → Option Nat) (LP : List Nat) (pv : Nat → Int32) (n : Nat) (gn : 1 ≤ n ∧ n ≤ 8) (hs : pl n = some q) (hls : lsOK ad LP pv f (aK n)) (what : Int) (gw : 0 ≤ what ∧ what ≤ 3) : Met l yX6_pairs wsX6_pairs ({ frames := 4, cells := 0, slots := 0, locals := 85 }) (va_Pc [.ref x, .int (zI (n)), .int (zI (what))] (fun U => va_P D vwCl (([oX x a (((R : Nat) : Int)), aQ t 4 (a 3) 9 (pl), (q, .inr (3, [.int (zI ((((aA n).length : Nat) : Int))), .ref li])), (li, .inr (1, [.int (zI (mo)), .ref eA, .int (zI ((((aK n).length : Nat) : Int)))]))] ++ TT t (eA) ((aK n).length) (f) (LP) (pv))) U.heap ∧ va_K D vwCl (TY t) U ∧ jK ad d0 tc (fun _ => False) U U.heap)) (vp_Si (fun r => r = zI (sp_pairs (n : Int) what))) 0 0 (fun _ => False) := by
  refine Met.ofW (cc := cX6_pairs) (maxL := 4) (ret := (some .int)) (by decide) rfl ?_
  intro p e s m args below meth c s₁ B hml hv
  obtain ⟨rfl, hP, hK, hJ⟩ := hv
  have hS : va_S (fun _ => False) s.heap s.heap [] := va_S.rf
  have hx := B.exec
  have hb := B.bytes
  have hr := B.returns
  have hts := atoms_spec (ws := wsX6_pairs) B.pre
  have hown : s.vm.findClass RX6 = some m.cls := findClass_of_methodNamed B.named
  have hlocks := B.notSynchronized
  have hl := lv_entry ([.ref x, .int (zI (n)), .int (zI (what))]) (n := 4) (Nat.le_of_ble_eq_true rfl)
  rw [lg_entry_eq]
  generalize (lg_sl ([.ref x, .int (zI (n)), .int (zI (what))]) ++ List.replicate (4 - (lg_sl ([.ref x, .int (zI (n)), .int (zI (what))])).length) Slot.unset).toArray = ls at hl ⊢
  have hl : lv_has ls 4 [(0, .ref x), (1, .int (zI (n))), (2, .int (zI (what)))] := hl
  have iX1 : ∀ w ∈ u_ws RX1 TX1 2, w ∈ wsX6_pairs := by decide +kernel
  refine lv_iload_n hx hb dX6_pairs_0 rfl (lv_at hl 1 rfl) ?_
  refine lv_iconst (v := zI 1) hx hb dX6_pairs_1 rfl ?_
  refine lv_bipush (v := zI 8) hx hb dX6_pairs_2 (by decide +kernel) ?_
  refine vp_callSi (va_runS (As := [.int (zI (n)), .int (zI (1)), .int (zI (8))]) (rest := []) ⟨hx, hb, hml, hown, hts⟩ (c_X6_within l (n : Int) 1 8 (by omega) (by omega) (by omega)) (va_cwS 3 hts gX6_pairs_X6_within rfl rfl rfl (by decide +kernel) ⟨Nat.le_of_ble_eq_true rfl, Nat.le_of_ble_eq_true rfl⟩) ⟨fun a U g mk q => q, fun U hU hW => ⟨rfl, trivial⟩⟩ rfl rfl hl.1 rfl (lv_room (Nat.le_of_ble_eq_true rfl)) dX6_pairs_4 ⟨Nat.le_of_ble_eq_true rfl, Nat.le_of_ble_eq_true rfl⟩).run (fun r hr4 => ?_)
  obtain rfl := hr4
  refine z_ifb_eq (P := (1 : Int) ≤ (n : Int) ∧ (n : Int) ≤ 8) (tgt := 19) hx hb dX6_pairs_7 (by decide) (fun c7 => ?_) (fun c7 => ?_)
  · exact absurd (show (1 : Int) ≤ (n : Int) ∧ (n : Int) ≤ 8 by omega) c7
  · refine lv_iload_n hx hb dX6_pairs_10 rfl (lv_at hl 2 rfl) ?_
    refine lv_iconst (v := zI 0) hx hb dX6_pairs_11 rfl ?_
    refine lv_iconst (v := zI 3) hx hb dX6_pairs_12 rfl ?_
    refine vp_callSi (va_runS (As := [.int (zI (what)), .int (zI (0)), .int (zI (3))]) (rest := []) ⟨hx, hb, hml, hown, hts⟩ (c_X6_within l what 0 3 (by omega) (by omega) (by omega)) (va_cwS 3 hts gX6_pairs_X6_within rfl rfl rfl (by decide +kernel) ⟨Nat.le_of_ble_eq_true rfl, Nat.le_of_ble_eq_true rfl⟩) ⟨fun a U g mk q => q, fun U hU hW => ⟨rfl, trivial⟩⟩ rfl rfl hl.1 rfl (lv_room (Nat.le_of_ble_eq_true rfl)) dX6_pairs_13 ⟨Nat.le_of_ble_eq_true rfl, Nat.le_of_ble_eq_true rfl⟩).run (fun r hr13 => ?_)
    obtain rfl := hr13
    refine z_ifb_ne (P := (0) ≤ (what) ∧ (what) ≤ (3)) (tgt := 21) hx hb dX6_pairs_16 (by decide) (fun c16 => ?_) (fun c16 => ?_)
    · refine lv_aload_n hx hb dX6_pairs_21 rfl (lv_at hl 0 rfl) ?_
      refine lv_iload_n hx hb dX6_pairs_22 rfl (lv_at hl 1 rfl) ?_
      have hPc := hP.sub (ws' := [oX x a (((R : Nat) : Int)), aQ t 4 (a 3) 9 (pl)]) [0, 1] rfl
      refine va_csq (va_runV (As := [.int (zI (n))]) (rest := []) ⟨hx, hb, hml, hown, hts⟩ (c_X6_pairListOf_s l D t x a R pl q n gn hs) (cwV 1 hts gX6_pairs_X6_pairListOf rfl rfl rfl (by decide +kernel) ⟨Nat.le_of_ble_eq_true rfl, Nat.le_of_ble_eq_true rfl⟩) ⟨fun a U g mk q => ⟨q.1, q.2.1, va_K.moved (u := U) (U := U.calling g mk a) (Vm.Alike.refl U.vm) q.2.2⟩, va_recv hK hPc (ci := 5) (q0 := 0) rfl rfl, fun U hU hW => ⟨rfl, by rw [hU]; exact hPc, va_K.moved hW.alike hK⟩⟩ rfl rfl hl.1 rfl (lv_room (Nat.le_of_ble_eq_true rfl)) dX6_pairs_23 ⟨Nat.le_of_ble_eq_true rfl, Nat.le_of_ble_eq_true rfl⟩).run (fun r hr23 => ?_)
      obtain rfl := hr23
      have g5 := pairs_all gn
      have g6 : (aA n).length ≤ 192 := g5.2.2.2.1
      have g7 : (aK n).length ≤ 5 := g5.2.2.1
      have g8 := aA_aK gn
      have g9 := hdd_lt gn
      refine lv_astore_n (lv' := [(3, .ref q), (0, .ref x), (1, .int (zI (n))), (2, .int (zI (what)))]) hx hb dX6_pairs_26 rfl hl (by decide) rfl (fun ls hl => ?_)
      refine lv_iload_n hx hb dX6_pairs_27 rfl (lv_at hl 3 rfl) ?_
      refine z_if_ne (tgt := 36) hx hb dX6_pairs_28 (by decide) (by omega) (fun c28 => ?_) (fun c28 => ?_)
      · refine lv_iload_n hx hb dX6_pairs_36 rfl (lv_at hl 3 rfl) ?_
        refine lv_iconst (v := zI 1) hx hb dX6_pairs_37 rfl ?_
        refine z_icmp_ne (tgt := 46) hx hb dX6_pairs_38 (by decide) (by omega) (by omega) (fun c38 => ?_) (fun c38 => ?_)
        · refine lv_aload_n hx hb dX6_pairs_46 rfl (lv_at hl 0 rfl) ?_
          have hPc := hP.sub (ws' := [(q, .inr (3, [.int (zI ((((aA n).length : Nat) : Int))), .ref li])), (li, .inr (1, [.int (zI (mo)), .ref eA, .int (zI ((((aK n).length : Nat) : Int)))]))]) [2, 3] rfl
          refine vp_callSi (va_runV (As := []) (rest := []) ⟨hx, hb, hml, hown, hts⟩ (c_X1_kinds l D t q li eA (aK n).length (((aA n).length : Nat) : Int) mo) (cwV 0 hts gX6_pairs_X1_kinds rfl rfl rfl (by decide +kernel) ⟨Nat.le_of_ble_eq_true rfl, Nat.le_of_ble_eq_true rfl⟩) ⟨fun a U g mk q => ⟨q.1, q.2.1, va_K.moved (u := U) (U := U.calling g mk a) (Vm.Alike.refl U.vm) q.2.2⟩, va_recv hK hPc (ci := 3) (q0 := 0) rfl rfl, fun U hU hW => ⟨rfl, by rw [hU]; exact hPc, va_K.moved hW.alike hK⟩⟩ rfl rfl hl.1 rfl (lv_room (Nat.le_of_ble_eq_true rfl)) dX6_pairs_47 ⟨Nat.le_of_ble_eq_true rfl, Nat.le_of_ble_eq_true rfl⟩).run (fun r hr47 => ?_)
          obtain rfl := hr47
          refine z_if_ne (tgt := 56) hx hb dX6_pairs_50 (by decide) (by omega) (fun c50 => ?_) (fun c50 => ?_)
          · refine lv_iload_n hx hb dX6_pairs_56 rfl (lv_at hl 3 rfl) ?_
            refine lv_iconst (v := zI 2) hx hb dX6_pairs_57 rfl ?_
            refine z_icmp_ne (tgt := 73) hx hb dX6_pairs_58 (by decide) (by omega) (by omega) (fun c58 => ?_) (fun c58 => ?_)
            · refine lv_aload_n hx hb dX6_pairs_73 rfl (lv_at hl 0 rfl) ?_
              have hkp : 0 < (aK n).length := by omega
              obtain ⟨y0, hf0, hb0⟩ := lsOK_at hls (i := 0) (by omega)
              rw [TT_k t eA f LP pv hkp] at hP
              have hP : va_P D vwCl ([oX x a (((R : Nat) : Int)), aQ t 4 (a 3) 9 (pl), (q, .inr (3, [.int (zI ((((aA n).length : Nat) : Int))), .ref li])), (li, .inr (1, [.int (zI (mo)), .ref eA, .int (zI ((((aK n).length : Nat) : Int)))])), aQ t 6 eA 10 (f)] ++ PT (LP) (pv)) s.heap := hP
              refine lv_iconst (v := zI 0) hx hb dX6_pairs_74 rfl ?_
              refine z_re (e2 := ((0 : Nat) : Int)) (rfl) ?_
              have hPc := hP.part (X := [oX x a (((R : Nat) : Int)), aQ t 4 (a 3) 9 (pl), (q, .inr (3, [.int (zI ((((aA n).length : Nat) : Int))), .ref li])), (li, .inr (1, [.int (zI (mo)), .ref eA, .int (zI ((((aK n).length : Nat) : Int)))])), aQ t 6 eA 10 (f)]) (cx := [(q, .inr (3, [.int (zI ((((aA n).length : Nat) : Int))), .ref li])), (li, .inr (1, [.int (zI (mo)), .ref eA, .int (zI ((((aK n).length : Nat) : Int)))])), aQ t 6 eA 10 (f)]) (pl := PT (LP) (pv)) [2, 3, 4] rfl
              refine vp_callSi (va_runV (As := [.int (zI (((0 : Nat) : Int)))]) (rest := []) ⟨hx, hb, hml, hown, hts⟩ (c_X1_codeAt l D t ad d0 tc q li eA (aK n).length (((aA n).length : Nat) : Int) mo f LP pv (by omega) (0) y0 (((atL (aK n) (0) : Nat)) : Int) (by omega) hf0 hb0) (cwV 1 hts gX6_pairs_X1_codeAt rfl rfl rfl (by decide +kernel) ⟨Nat.le_of_ble_eq_true rfl, Nat.le_of_ble_eq_true rfl⟩) ⟨fun a U g mk q => by obtain ⟨q0, qP, qK, qS0⟩ := q; exact ⟨q0, qP, va_K.moved (u := U) (U := U.calling g mk a) (Vm.Alike.refl U.vm) qK, qS0.moved (u := U) (U := U.calling g mk a) (Vm.Alike.refl U.vm)⟩, va_recv hK hPc (ci := 3) (q0 := 0) rfl rfl, fun U hU hW => ⟨rfl, by rw [hU]; exact hPc, va_K.moved hW.alike hK, by rw [hU]; exact (((hJ.kept hS.2.1).narrow (fun q h => h.elim))).moved hW.alike⟩⟩ rfl rfl hl.1 rfl (lv_room (Nat.le_of_ble_eq_true rfl)) dX6_pairs_75 ⟨Nat.le_of_ble_eq_true rfl, Nat.le_of_ble_eq_true rfl⟩).run (fun r hr75 => ?_)
              obtain rfl := hr75
              refine z_re (e2 := ((hdd (aA n) : Nat) : Int)) (by rw [hdd_atL, g8.2]) ?_
              refine lv_sipush (v := zI 1000) hx hb dX6_pairs_78 (by decide +kernel) ?_
              refine z_irem hx hb (by omega) (by omega) dX6_pairs_81 ?_
              refine z_re (e2 := ((hdd (aA n) % 1000 : Nat) : Int)) (rfl) ?_
              exact W.iret (v := (zI (((hdd (aA n) % 1000 : Nat) : Int)))) hx hb hr (fun tq ht hW => ⟨_, rfl, by rw [sp_pairs_n gn gw, if_neg (by omega), if_neg (by omega), if_neg (by omega), if_neg (by omega)], ht⟩) (fun q h => by cases h) dX6_pairs_82
            · refine lv_aload_n hx hb dX6_pairs_61 rfl (lv_at hl 0 rfl) ?_
              have hkp : 0 < (aK n).length := by omega
              obtain ⟨y0, hf0, hb0⟩ := lsOK_at hls (i := 0) (by omega)
              rw [TT_k t eA f LP pv hkp] at hP
              have hP : va_P D vwCl ([oX x a (((R : Nat) : Int)), aQ t 4 (a 3) 9 (pl), (q, .inr (3, [.int (zI ((((aA n).length : Nat) : Int))), .ref li])), (li, .inr (1, [.int (zI (mo)), .ref eA, .int (zI ((((aK n).length : Nat) : Int)))])), aQ t 6 eA 10 (f)] ++ PT (LP) (pv)) s.heap := hP
              refine lv_iconst (v := zI 0) hx hb dX6_pairs_62 rfl ?_
              refine z_re (e2 := ((0 : Nat) : Int)) (rfl) ?_
              have hPc := hP.part (X := [oX x a (((R : Nat) : Int)), aQ t 4 (a 3) 9 (pl), (q, .inr (3, [.int (zI ((((aA n).length : Nat) : Int))), .ref li])), (li, .inr (1, [.int (zI (mo)), .ref eA, .int (zI ((((aK n).length : Nat) : Int)))])), aQ t 6 eA 10 (f)]) (cx := [(q, .inr (3, [.int (zI ((((aA n).length : Nat) : Int))), .ref li])), (li, .inr (1, [.int (zI (mo)), .ref eA, .int (zI ((((aK n).length : Nat) : Int)))])), aQ t 6 eA 10 (f)]) (pl := PT (LP) (pv)) [2, 3, 4] rfl
              refine vp_callSi (va_runV (As := [.int (zI (((0 : Nat) : Int)))]) (rest := []) ⟨hx, hb, hml, hown, hts⟩ (c_X1_codeAt l D t ad d0 tc q li eA (aK n).length (((aA n).length : Nat) : Int) mo f LP pv (by omega) (0) y0 (((atL (aK n) (0) : Nat)) : Int) (by omega) hf0 hb0) (cwV 1 hts gX6_pairs_X1_codeAt rfl rfl rfl (by decide +kernel) ⟨Nat.le_of_ble_eq_true rfl, Nat.le_of_ble_eq_true rfl⟩) ⟨fun a U g mk q => by obtain ⟨q0, qP, qK, qS0⟩ := q; exact ⟨q0, qP, va_K.moved (u := U) (U := U.calling g mk a) (Vm.Alike.refl U.vm) qK, qS0.moved (u := U) (U := U.calling g mk a) (Vm.Alike.refl U.vm)⟩, va_recv hK hPc (ci := 3) (q0 := 0) rfl rfl, fun U hU hW => ⟨rfl, by rw [hU]; exact hPc, va_K.moved hW.alike hK, by rw [hU]; exact (((hJ.kept hS.2.1).narrow (fun q h => h.elim))).moved hW.alike⟩⟩ rfl rfl hl.1 rfl (lv_room (Nat.le_of_ble_eq_true rfl)) dX6_pairs_63 ⟨Nat.le_of_ble_eq_true rfl, Nat.le_of_ble_eq_true rfl⟩).run (fun r hr63 => ?_)
              obtain rfl := hr63
              refine z_re (e2 := ((hdd (aA n) : Nat) : Int)) (by rw [hdd_atL, g8.2]) ?_
              refine lv_sipush (v := zI 1000) hx hb dX6_pairs_66 (by decide +kernel) ?_
              refine z_idiv hx hb (by omega) (by omega) dX6_pairs_69 ?_
              refine z_re (e2 := ((hdd (aA n) / 1000 : Nat) : Int)) (rfl) ?_
              refine lv_goto (tgt := 82) hx hb dX6_pairs_70 (by decide) ?_
              exact W.iret (v := (zI (((hdd (aA n) / 1000 : Nat) : Int)))) hx hb hr (fun tq ht hW => ⟨_, rfl, by rw [sp_pairs_n gn gw, if_neg (by omega), if_neg (by omega), if_neg (by omega), if_pos (by omega)], ht⟩) (fun q h => by cases h) dX6_pairs_82
          · refine lv_bipush (v := zI (-4)) hx hb dX6_pairs_53 (by decide +kernel) ?_
            exact W.iret (v := (zI ((-4)))) hx hb hr (fun tq ht hW => ⟨_, rfl, by rw [sp_pairs_n gn gw, if_neg (by omega), if_neg (by omega), if_pos (by omega)], ht⟩) (fun q h => by cases h) dX6_pairs_55
        · refine lv_aload_n hx hb dX6_pairs_41 rfl (lv_at hl 0 rfl) ?_
          have hPc := hP.sub (ws' := [(q, .inr (3, [.int (zI ((((aA n).length : Nat) : Int))), .ref li])), (li, .inr (1, [.int (zI (mo)), .ref eA, .int (zI ((((aK n).length : Nat) : Int)))]))]) [2, 3] rfl
          refine vp_callSi (va_runV (As := []) (rest := []) ⟨hx, hb, hml, hown, hts⟩ (c_X1_kinds l D t q li eA (aK n).length (((aA n).length : Nat) : Int) mo) (cwV 0 hts gX6_pairs_X1_kinds rfl rfl rfl (by decide +kernel) ⟨Nat.le_of_ble_eq_true rfl, Nat.le_of_ble_eq_true rfl⟩) ⟨fun a U g mk q => ⟨q.1, q.2.1, va_K.moved (u := U) (U := U.calling g mk a) (Vm.Alike.refl U.vm) q.2.2⟩, va_recv hK hPc (ci := 3) (q0 := 0) rfl rfl, fun U hU hW => ⟨rfl, by rw [hU]; exact hPc, va_K.moved hW.alike hK⟩⟩ rfl rfl hl.1 rfl (lv_room (Nat.le_of_ble_eq_true rfl)) dX6_pairs_42 ⟨Nat.le_of_ble_eq_true rfl, Nat.le_of_ble_eq_true rfl⟩).run (fun r hr42 => ?_)
          obtain rfl := hr42
          exact W.iret (v := (zI ((((aK n).length : Nat) : Int)))) hx hb hr (fun tq ht hW => ⟨_, rfl, by rw [sp_pairs_n gn gw, if_neg (by omega), if_pos (by omega)], ht⟩) (fun q h => by cases h) dX6_pairs_45
      · refine lv_aload_n hx hb dX6_pairs_31 rfl (lv_at hl 0 rfl) ?_
        refine va_get (D := D) (ci := 3) (v := .int (zI ((((aA n).length : Nat) : Int)))) (C := RX1) (T := TX1) (N := 2) hx hb hts iX1 hown hK hP 2 rfl rfl 0 (by decide) (hts (.fieldLink RX6 169 "CancelRows$PairList" "many" "I") (by decide +kernel)) (fun _ h9 => h9) rfl dX6_pairs_32 ?_
        exact W.iret (v := (zI ((((aA n).length : Nat) : Int)))) hx hb hr (fun tq ht hW => ⟨_, rfl, by rw [sp_pairs_n gn gw, if_pos (by omega)], ht⟩) (fun q h => by cases h) dX6_pairs_35
    · exact absurd (show (0 : Int) ≤ what ∧ what ≤ 3 by omega) c16

-- pairs, new
set_option maxHeartbeats 4000000 in
set_option maxRecDepth 100000 in
theorem c_X6_pairs_n (l : Launch) (D : va_G) (t : Nat → ClassId) (sz : Nat) (ad : Nat → Nat) (d0 tc : Nat) (x : Nat) (a : Nat → Nat) (R : Nat) (pl : Nat → Option Nat) (n : Nat) (gn : 1 ≤ n ∧ n ≤ 8) (hs : pl n = none) (what : Int) (gw : 0 ≤ what ∧ what ≤ 3) : Met l yX6_pairs wsX6_pairs ({ frames := 8, cells := 12, slots := 60, locals := 186 }) (va_Pc [.ref x, .int (zI (n)), .int (zI (what))] (fun U => U.heap.size = sz ∧ va_P D vwCl ([oX x a (((R : Nat) : Int)), aQ t 4 (a 3) 9 (pl)]) U.heap ∧ va_K D vwCl (TY t) U ∧ va_D (fun _ => True) ([oX x a (((R : Nat) : Int)), aQ t 4 (a 3) 9 (pl)]) ∧ jK ad d0 tc (va_A ([oX x a (((R : Nat) : Int)), aQ t 4 (a 3) 9 (pl)]) sz) U U.heap)) (va_Qi (fun r (u : Nat × Nat × Nat × Int × (Nat → Option Nat) × List Nat × (Nat → Int32)) => r = zI (sp_pairs (n : Int) what) ∧ lsOK ad u.2.2.2.2.2.1 u.2.2.2.2.2.2 u.2.2.2.2.1 (aK n) ∧ ((aK n).length = 0 → u.2.2.1 = d0)) (fun (u : Nat × Nat × Nat × Int × (Nat → Option Nat) × List Nat × (Nat → Int32)) t1 => va_P D vwCl (([oX x a (((R : Nat) : Int)), aQ t 4 (a 3) 9 (va_up pl n (some (u.1))), (u.1, .inr (3, [.int (zI ((((aA n).length : Nat) : Int))), .ref u.2.1])), (u.2.1, .inr (1, [.int (zI (u.2.2.2.1)), .ref u.2.2.1, .int (zI ((((aK n).length : Nat) : Int)))]))] ++ TT t (u.2.2.1) ((aK n).length) (u.2.2.2.2.1) (u.2.2.2.2.2.1) (u.2.2.2.2.2.2))) t1.heap ∧ va_K D vwCl (TY t) t1 ∧ va_D (va_A ([oX x a (((R : Nat) : Int)), aQ t 4 (a 3) 9 (pl)]) sz) (([oX x a (((R : Nat) : Int)), aQ t 4 (a 3) 9 (va_up pl n (some (u.1))), (u.1, .inr (3, [.int (zI ((((aA n).length : Nat) : Int))), .ref u.2.1])), (u.2.1, .inr (1, [.int (zI (u.2.2.2.1)), .ref u.2.2.1, .int (zI ((((aK n).length : Nat) : Int)))]))] ++ TT t (u.2.2.1) ((aK n).length) (u.2.2.2.2.1) (u.2.2.2.2.2.1) (u.2.2.2.2.2.2)))) (va_A ([oX x a (((R : Nat) : Int)), aQ t 4 (a 3) 9 (pl)]) sz)) 12 60 (va_A ([oX x a (((R : Nat) : Int)), aQ t 4 (a 3) 9 (pl)]) sz) := by
  refine Met.ofW (cc := cX6_pairs) (maxL := 4) (ret := (some .int)) (by decide) rfl ?_
  intro p e s m args below meth c s₁ B hml hv
  obtain ⟨rfl, hsz, hP, hK, hD0, hJ⟩ := hv
  have hx := B.exec
  have hb := B.bytes
  have hr := B.returns
  have hts := atoms_spec (ws := wsX6_pairs) B.pre
  have hown : s.vm.findClass RX6 = some m.cls := findClass_of_methodNamed B.named
  have hlocks := B.notSynchronized
  subst hsz
  have hD := hD0.self (sz := s.heap.size)
  generalize hAe : va_A ([oX x a (((R : Nat) : Int)), aQ t 4 (a 3) 9 (pl)]) s.heap.size = AA at hD hJ ⊢
  have hA : ∀ q : Nat, s.heap.size ≤ q → AA q := fun q h => by rw [← hAe]; exact Or.inr h
  have hS : va_S AA s.heap s.heap [] := va_S.rf
  have hP : va_P D vwCl ([oX x a (((R : Nat) : Int)), aQ t 4 (a 3) 9 (pl)]) s.heap := hP
  have hl := lv_entry ([.ref x, .int (zI (n)), .int (zI (what))]) (n := 4) (Nat.le_of_ble_eq_true rfl)
  rw [lg_entry_eq]
  generalize (lg_sl ([.ref x, .int (zI (n)), .int (zI (what))]) ++ List.replicate (4 - (lg_sl ([.ref x, .int (zI (n)), .int (zI (what))])).length) Slot.unset).toArray = ls at hl ⊢
  have hl : lv_has ls 4 [(0, .ref x), (1, .int (zI (n))), (2, .int (zI (what)))] := hl
  have iX1 : ∀ w ∈ u_ws RX1 TX1 2, w ∈ wsX6_pairs := by decide +kernel
  refine lv_iload_n hx hb dX6_pairs_0 rfl (lv_at hl 1 rfl) ?_
  refine lv_iconst (v := zI 1) hx hb dX6_pairs_1 rfl ?_
  refine lv_bipush (v := zI 8) hx hb dX6_pairs_2 (by decide +kernel) ?_
  refine vp_callSi (va_runS (As := [.int (zI (n)), .int (zI (1)), .int (zI (8))]) (rest := []) ⟨hx, hb, hml, hown, hts⟩ (c_X6_within l (n : Int) 1 8 (by omega) (by omega) (by omega)) (va_cwS 3 hts gX6_pairs_X6_within rfl rfl rfl (by decide +kernel) ⟨Nat.le_of_ble_eq_true rfl, Nat.le_of_ble_eq_true rfl⟩) ⟨fun a U g mk q => q, fun U hU hW => ⟨rfl, trivial⟩⟩ rfl rfl hl.1 rfl (lv_room (Nat.le_of_ble_eq_true rfl)) dX6_pairs_4 ⟨Nat.le_of_ble_eq_true rfl, Nat.le_of_ble_eq_true rfl⟩).run (fun r hr4 => ?_)
  obtain rfl := hr4
  refine z_ifb_eq (P := (1 : Int) ≤ (n : Int) ∧ (n : Int) ≤ 8) (tgt := 19) hx hb dX6_pairs_7 (by decide) (fun c7 => ?_) (fun c7 => ?_)
  · exact absurd (show (1 : Int) ≤ (n : Int) ∧ (n : Int) ≤ 8 by omega) c7
  · refine lv_iload_n hx hb dX6_pairs_10 rfl (lv_at hl 2 rfl) ?_
    refine lv_iconst (v := zI 0) hx hb dX6_pairs_11 rfl ?_
    refine lv_iconst (v := zI 3) hx hb dX6_pairs_12 rfl ?_
    refine vp_callSi (va_runS (As := [.int (zI (what)), .int (zI (0)), .int (zI (3))]) (rest := []) ⟨hx, hb, hml, hown, hts⟩ (c_X6_within l what 0 3 (by omega) (by omega) (by omega)) (va_cwS 3 hts gX6_pairs_X6_within rfl rfl rfl (by decide +kernel) ⟨Nat.le_of_ble_eq_true rfl, Nat.le_of_ble_eq_true rfl⟩) ⟨fun a U g mk q => q, fun U hU hW => ⟨rfl, trivial⟩⟩ rfl rfl hl.1 rfl (lv_room (Nat.le_of_ble_eq_true rfl)) dX6_pairs_13 ⟨Nat.le_of_ble_eq_true rfl, Nat.le_of_ble_eq_true rfl⟩).run (fun r hr13 => ?_)
    obtain rfl := hr13
    refine z_ifb_ne (P := (0) ≤ (what) ∧ (what) ≤ (3)) (tgt := 21) hx hb dX6_pairs_16 (by decide) (fun c16 => ?_) (fun c16 => ?_)
    · refine lv_aload_n hx hb dX6_pairs_21 rfl (lv_at hl 0 rfl) ?_
      refine lv_iload_n hx hb dX6_pairs_22 rfl (lv_at hl 1 rfl) ?_
      have hPc := hP.sub (ws' := [oX x a (((R : Nat) : Int)), aQ t 4 (a 3) 9 (pl)]) [0, 1] rfl
      have hDc := hD.sub (ws' := [oX x a (((R : Nat) : Int)), aQ t 4 (a 3) 9 (pl)]) [0, 1] (by decide) rfl
      have hFc := va_free (wc := [oX x a (((R : Nat) : Int)), aQ t 4 (a 3) 9 (pl)]) hD hS hA [0, 1] rfl
      refine va_callr (va_runV (As := [.int (zI (n))]) (rest := []) ⟨hx, hb, hml, hown, hts⟩ (c_X6_pairListOf_n l D t s.heap.size ad d0 tc x a R pl n gn hs) (cwV 1 hts gX6_pairs_X6_pairListOf rfl rfl rfl (by decide +kernel) ⟨Nat.le_of_ble_eq_true rfl, Nat.le_of_ble_eq_true rfl⟩) ⟨fun a U g mk q => by obtain ⟨q0, q1, qP, qK, qD, qS0⟩ := q; exact ⟨q0, q1, qP, va_K.moved (u := U) (U := U.calling g mk a) (Vm.Alike.refl U.vm) qK, qD, qS0.moved (u := U) (U := U.calling g mk a) (Vm.Alike.refl U.vm)⟩, va_recv hK hPc (ci := 5) (q0 := 0) rfl rfl, fun U hU hW => ⟨rfl, by rw [hU], by rw [hU]; exact hPc, va_K.moved hW.alike hK, hDc.weaken (fun _ _ _ _ => trivial), by rw [hU]; exact (((hJ.kept hS.2.1).narrow hFc)).moved hW.alike⟩⟩ rfl rfl hl.1 rfl (lv_room (Nat.le_of_ble_eq_true rfl)) dX6_pairs_23 ⟨Nat.le_of_ble_eq_true rfl, Nat.le_of_ble_eq_true rfl⟩) hS (fun q _ h => hFc q h) hFc (fun u bq tq H1 locs ht hvm hr23 hB hz1 hk1 hS => ?_)
      obtain ⟨li9, eA9, mo9, f9, LP9, pv9⟩ := u
      obtain ⟨hP1, hK1, hD1⟩ := hB
      rw [ht] at hP1
      obtain ⟨hP, hD⟩ := va_join (wr := []) (w1 := ([oX x a (((R : Nat) : Int)), aQ t 4 (a 3) 9 (va_up pl n (some (bq))), (bq, .inr (3, [.int (zI ((((aA n).length : Nat) : Int))), .ref li9])), (li9, .inr (1, [.int (zI (mo9)), .ref eA9, .int (zI ((((aK n).length : Nat) : Int)))]))] ++ TT t (eA9) ((aK n).length) (f9) (LP9) (pv9))) hP hD [0, 1] [] rfl rfl (by decide) (by decide) hk1 hFc hP1 hD1
      generalize H1 = H at hP hS ⊢
      have hP : va_P D vwCl ([oX x a (((R : Nat) : Int)), aQ t 4 (a 3) 9 (va_up pl n (some (bq))), (bq, .inr (3, [.int (zI ((((aA n).length : Nat) : Int))), .ref li9])), (li9, .inr (1, [.int (zI (mo9)), .ref eA9, .int (zI ((((aK n).length : Nat) : Int)))]))] ++ TT t (eA9) ((aK n).length) (f9) (LP9) (pv9)) H := hP
      have hD : va_D AA ([oX x a (((R : Nat) : Int)), aQ t 4 (a 3) 9 (va_up pl n (some (bq))), (bq, .inr (3, [.int (zI ((((aA n).length : Nat) : Int))), .ref li9])), (li9, .inr (1, [.int (zI (mo9)), .ref eA9, .int (zI ((((aK n).length : Nat) : Int)))]))] ++ TT t (eA9) ((aK n).length) (f9) (LP9) (pv9)) := hD
      have g5 := pairs_all gn
      have g6 : (aA n).length ≤ 192 := g5.2.2.2.1
      have g7 : (aK n).length ≤ 5 := g5.2.2.1
      have g8 := aA_aK gn
      have g9 := hdd_lt gn
      refine lv_astore_n (lv' := [(3, .ref bq), (0, .ref x), (1, .int (zI (n))), (2, .int (zI (what)))]) hx hb dX6_pairs_26 rfl hl (by decide) rfl (fun ls hl => ?_)
      refine lv_iload_n hx hb dX6_pairs_27 rfl (lv_at hl 3 rfl) ?_
      refine z_if_ne (tgt := 36) hx hb dX6_pairs_28 (by decide) (by omega) (fun c28 => ?_) (fun c28 => ?_)
      · refine lv_iload_n hx hb dX6_pairs_36 rfl (lv_at hl 3 rfl) ?_
        refine lv_iconst (v := zI 1) hx hb dX6_pairs_37 rfl ?_
        refine z_icmp_ne (tgt := 46) hx hb dX6_pairs_38 (by decide) (by omega) (by omega) (fun c38 => ?_) (fun c38 => ?_)
        · refine lv_aload_n hx hb dX6_pairs_46 rfl (lv_at hl 0 rfl) ?_
          have hPc := hP.sub (ws' := [(bq, .inr (3, [.int (zI ((((aA n).length : Nat) : Int))), .ref li9])), (li9, .inr (1, [.int (zI (mo9)), .ref eA9, .int (zI ((((aK n).length : Nat) : Int)))]))]) [2, 3] rfl
          refine vp_callSi (va_runV (As := []) (rest := []) ⟨hx, hb, hml, hown, hts⟩ (c_X1_kinds l D t bq li9 eA9 (aK n).length (((aA n).length : Nat) : Int) mo9) (cwV 0 hts gX6_pairs_X1_kinds rfl rfl rfl (by decide +kernel) ⟨Nat.le_of_ble_eq_true rfl, Nat.le_of_ble_eq_true rfl⟩) ⟨fun a U g mk q => ⟨q.1, q.2.1, va_K.moved (u := U) (U := U.calling g mk a) (Vm.Alike.refl U.vm) q.2.2⟩, va_recv hK hPc (ci := 3) (q0 := 0) rfl rfl, fun U hU hW => ⟨rfl, by rw [hU]; exact hPc, va_K.moved hW.alike hK⟩⟩ rfl rfl hl.1 rfl (lv_room (Nat.le_of_ble_eq_true rfl)) dX6_pairs_47 ⟨Nat.le_of_ble_eq_true rfl, Nat.le_of_ble_eq_true rfl⟩).run (fun r hr47 => ?_)
          obtain rfl := hr47
          refine z_if_ne (tgt := 56) hx hb dX6_pairs_50 (by decide) (by omega) (fun c50 => ?_) (fun c50 => ?_)
          · refine lv_iload_n hx hb dX6_pairs_56 rfl (lv_at hl 3 rfl) ?_
            refine lv_iconst (v := zI 2) hx hb dX6_pairs_57 rfl ?_
            refine z_icmp_ne (tgt := 73) hx hb dX6_pairs_58 (by decide) (by omega) (by omega) (fun c58 => ?_) (fun c58 => ?_)
            · refine lv_aload_n hx hb dX6_pairs_73 rfl (lv_at hl 0 rfl) ?_
              have hkp : 0 < (aK n).length := by omega
              obtain ⟨y0, hf0, hb0⟩ := lsOK_at hr23.1 (i := 0) (by omega)
              rw [TT_k t eA9 f9 LP9 pv9 hkp] at hP hD
              have hP : va_P D vwCl ([oX x a (((R : Nat) : Int)), aQ t 4 (a 3) 9 (va_up pl n (some (bq))), (bq, .inr (3, [.int (zI ((((aA n).length : Nat) : Int))), .ref li9])), (li9, .inr (1, [.int (zI (mo9)), .ref eA9, .int (zI ((((aK n).length : Nat) : Int)))])), aQ t 6 eA9 10 (f9)] ++ PT (LP9) (pv9)) H := hP
              have hD : va_D AA ([oX x a (((R : Nat) : Int)), aQ t 4 (a 3) 9 (va_up pl n (some (bq))), (bq, .inr (3, [.int (zI ((((aA n).length : Nat) : Int))), .ref li9])), (li9, .inr (1, [.int (zI (mo9)), .ref eA9, .int (zI ((((aK n).length : Nat) : Int)))])), aQ t 6 eA9 10 (f9)] ++ PT (LP9) (pv9)) := hD
              refine lv_iconst (v := zI 0) hx hb dX6_pairs_74 rfl ?_
              refine z_re (e2 := ((0 : Nat) : Int)) (rfl) ?_
              have hPc := hP.part (X := [oX x a (((R : Nat) : Int)), aQ t 4 (a 3) 9 (va_up pl n (some (bq))), (bq, .inr (3, [.int (zI ((((aA n).length : Nat) : Int))), .ref li9])), (li9, .inr (1, [.int (zI (mo9)), .ref eA9, .int (zI ((((aK n).length : Nat) : Int)))])), aQ t 6 eA9 10 (f9)]) (cx := [(bq, .inr (3, [.int (zI ((((aA n).length : Nat) : Int))), .ref li9])), (li9, .inr (1, [.int (zI (mo9)), .ref eA9, .int (zI ((((aK n).length : Nat) : Int)))])), aQ t 6 eA9 10 (f9)]) (pl := PT (LP9) (pv9)) [2, 3, 4] rfl
              refine vp_callSi (va_runV (As := [.int (zI (((0 : Nat) : Int)))]) (rest := []) ⟨hx, hb, hml, hown, hts⟩ (c_X1_codeAt l D t ad d0 tc bq li9 eA9 (aK n).length (((aA n).length : Nat) : Int) mo9 f9 LP9 pv9 (by omega) (0) y0 (((atL (aK n) (0) : Nat)) : Int) (by omega) hf0 hb0) (cwV 1 hts gX6_pairs_X1_codeAt rfl rfl rfl (by decide +kernel) ⟨Nat.le_of_ble_eq_true rfl, Nat.le_of_ble_eq_true rfl⟩) ⟨fun a U g mk q => by obtain ⟨q0, qP, qK, qS0⟩ := q; exact ⟨q0, qP, va_K.moved (u := U) (U := U.calling g mk a) (Vm.Alike.refl U.vm) qK, qS0.moved (u := U) (U := U.calling g mk a) (Vm.Alike.refl U.vm)⟩, va_recv hK hPc (ci := 3) (q0 := 0) rfl rfl, fun U hU hW => ⟨rfl, by rw [hU]; exact hPc, va_K.moved hW.alike hK, by rw [hU]; exact (((hJ.kept hS.2.1).narrow (fun q h => h.elim))).moved hW.alike⟩⟩ rfl rfl hl.1 rfl (lv_room (Nat.le_of_ble_eq_true rfl)) dX6_pairs_75 ⟨Nat.le_of_ble_eq_true rfl, Nat.le_of_ble_eq_true rfl⟩).run (fun r hr75 => ?_)
              obtain rfl := hr75
              refine z_re (e2 := ((hdd (aA n) : Nat) : Int)) (by rw [hdd_atL, g8.2]) ?_
              refine lv_sipush (v := zI 1000) hx hb dX6_pairs_78 (by decide +kernel) ?_
              refine z_irem hx hb (by omega) (by omega) dX6_pairs_81 ?_
              refine z_re (e2 := ((hdd (aA n) % 1000 : Nat) : Int)) (rfl) ?_
              have hP : va_P D vwCl ([oX x a (((R : Nat) : Int)), aQ t 4 (a 3) 9 (va_up pl n (some (bq))), (bq, .inr (3, [.int (zI ((((aA n).length : Nat) : Int))), .ref li9])), (li9, .inr (1, [.int (zI (mo9)), .ref eA9, .int (zI ((((aK n).length : Nat) : Int)))]))] ++ TT t (eA9) ((aK n).length) (f9) (LP9) (pv9)) H := by rw [TT_k t eA9 f9 LP9 pv9 hkp]; exact hP
              have hD : va_D AA ([oX x a (((R : Nat) : Int)), aQ t 4 (a 3) 9 (va_up pl n (some (bq))), (bq, .inr (3, [.int (zI ((((aA n).length : Nat) : Int))), .ref li9])), (li9, .inr (1, [.int (zI (mo9)), .ref eA9, .int (zI ((((aK n).length : Nat) : Int)))]))] ++ TT t (eA9) ((aK n).length) (f9) (LP9) (pv9)) := by rw [TT_k t eA9 f9 LP9 pv9 hkp]; exact hD
              exact W.iret (v := (zI (((hdd (aA n) % 1000 : Nat) : Int)))) hx hb hr (fun tq ht hW => ⟨⟨_, (bq, li9, eA9, mo9, f9, LP9, pv9), rfl, ⟨by rw [sp_pairs_n gn gw, if_neg (by omega), if_neg (by omega), if_neg (by omega), if_neg (by omega)], hr23.1, hr23.2⟩, by rw [ht]; exact hP, va_K.moved hW.alike hK, hD⟩, hS.F ht⟩) hS.2.2 dX6_pairs_82
            · refine lv_aload_n hx hb dX6_pairs_61 rfl (lv_at hl 0 rfl) ?_
              have hkp : 0 < (aK n).length := by omega
              obtain ⟨y0, hf0, hb0⟩ := lsOK_at hr23.1 (i := 0) (by omega)
              rw [TT_k t eA9 f9 LP9 pv9 hkp] at hP hD
              have hP : va_P D vwCl ([oX x a (((R : Nat) : Int)), aQ t 4 (a 3) 9 (va_up pl n (some (bq))), (bq, .inr (3, [.int (zI ((((aA n).length : Nat) : Int))), .ref li9])), (li9, .inr (1, [.int (zI (mo9)), .ref eA9, .int (zI ((((aK n).length : Nat) : Int)))])), aQ t 6 eA9 10 (f9)] ++ PT (LP9) (pv9)) H := hP
              have hD : va_D AA ([oX x a (((R : Nat) : Int)), aQ t 4 (a 3) 9 (va_up pl n (some (bq))), (bq, .inr (3, [.int (zI ((((aA n).length : Nat) : Int))), .ref li9])), (li9, .inr (1, [.int (zI (mo9)), .ref eA9, .int (zI ((((aK n).length : Nat) : Int)))])), aQ t 6 eA9 10 (f9)] ++ PT (LP9) (pv9)) := hD
              refine lv_iconst (v := zI 0) hx hb dX6_pairs_62 rfl ?_
              refine z_re (e2 := ((0 : Nat) : Int)) (rfl) ?_
              have hPc := hP.part (X := [oX x a (((R : Nat) : Int)), aQ t 4 (a 3) 9 (va_up pl n (some (bq))), (bq, .inr (3, [.int (zI ((((aA n).length : Nat) : Int))), .ref li9])), (li9, .inr (1, [.int (zI (mo9)), .ref eA9, .int (zI ((((aK n).length : Nat) : Int)))])), aQ t 6 eA9 10 (f9)]) (cx := [(bq, .inr (3, [.int (zI ((((aA n).length : Nat) : Int))), .ref li9])), (li9, .inr (1, [.int (zI (mo9)), .ref eA9, .int (zI ((((aK n).length : Nat) : Int)))])), aQ t 6 eA9 10 (f9)]) (pl := PT (LP9) (pv9)) [2, 3, 4] rfl
              refine vp_callSi (va_runV (As := [.int (zI (((0 : Nat) : Int)))]) (rest := []) ⟨hx, hb, hml, hown, hts⟩ (c_X1_codeAt l D t ad d0 tc bq li9 eA9 (aK n).length (((aA n).length : Nat) : Int) mo9 f9 LP9 pv9 (by omega) (0) y0 (((atL (aK n) (0) : Nat)) : Int) (by omega) hf0 hb0) (cwV 1 hts gX6_pairs_X1_codeAt rfl rfl rfl (by decide +kernel) ⟨Nat.le_of_ble_eq_true rfl, Nat.le_of_ble_eq_true rfl⟩) ⟨fun a U g mk q => by obtain ⟨q0, qP, qK, qS0⟩ := q; exact ⟨q0, qP, va_K.moved (u := U) (U := U.calling g mk a) (Vm.Alike.refl U.vm) qK, qS0.moved (u := U) (U := U.calling g mk a) (Vm.Alike.refl U.vm)⟩, va_recv hK hPc (ci := 3) (q0 := 0) rfl rfl, fun U hU hW => ⟨rfl, by rw [hU]; exact hPc, va_K.moved hW.alike hK, by rw [hU]; exact (((hJ.kept hS.2.1).narrow (fun q h => h.elim))).moved hW.alike⟩⟩ rfl rfl hl.1 rfl (lv_room (Nat.le_of_ble_eq_true rfl)) dX6_pairs_63 ⟨Nat.le_of_ble_eq_true rfl, Nat.le_of_ble_eq_true rfl⟩).run (fun r hr63 => ?_)
              obtain rfl := hr63
              refine z_re (e2 := ((hdd (aA n) : Nat) : Int)) (by rw [hdd_atL, g8.2]) ?_
              refine lv_sipush (v := zI 1000) hx hb dX6_pairs_66 (by decide +kernel) ?_
              refine z_idiv hx hb (by omega) (by omega) dX6_pairs_69 ?_
              refine z_re (e2 := ((hdd (aA n) / 1000 : Nat) : Int)) (rfl) ?_
              refine lv_goto (tgt := 82) hx hb dX6_pairs_70 (by decide) ?_
              have hP : va_P D vwCl ([oX x a (((R : Nat) : Int)), aQ t 4 (a 3) 9 (va_up pl n (some (bq))), (bq, .inr (3, [.int (zI ((((aA n).length : Nat) : Int))), .ref li9])), (li9, .inr (1, [.int (zI (mo9)), .ref eA9, .int (zI ((((aK n).length : Nat) : Int)))]))] ++ TT t (eA9) ((aK n).length) (f9) (LP9) (pv9)) H := by rw [TT_k t eA9 f9 LP9 pv9 hkp]; exact hP
              have hD : va_D AA ([oX x a (((R : Nat) : Int)), aQ t 4 (a 3) 9 (va_up pl n (some (bq))), (bq, .inr (3, [.int (zI ((((aA n).length : Nat) : Int))), .ref li9])), (li9, .inr (1, [.int (zI (mo9)), .ref eA9, .int (zI ((((aK n).length : Nat) : Int)))]))] ++ TT t (eA9) ((aK n).length) (f9) (LP9) (pv9)) := by rw [TT_k t eA9 f9 LP9 pv9 hkp]; exact hD
              exact W.iret (v := (zI (((hdd (aA n) / 1000 : Nat) : Int)))) hx hb hr (fun tq ht hW => ⟨⟨_, (bq, li9, eA9, mo9, f9, LP9, pv9), rfl, ⟨by rw [sp_pairs_n gn gw, if_neg (by omega), if_neg (by omega), if_neg (by omega), if_pos (by omega)], hr23.1, hr23.2⟩, by rw [ht]; exact hP, va_K.moved hW.alike hK, hD⟩, hS.F ht⟩) hS.2.2 dX6_pairs_82
          · refine lv_bipush (v := zI (-4)) hx hb dX6_pairs_53 (by decide +kernel) ?_
            exact W.iret (v := (zI ((-4)))) hx hb hr (fun tq ht hW => ⟨⟨_, (bq, li9, eA9, mo9, f9, LP9, pv9), rfl, ⟨by rw [sp_pairs_n gn gw, if_neg (by omega), if_neg (by omega), if_pos (by omega)], hr23.1, hr23.2⟩, by rw [ht]; exact hP, va_K.moved hW.alike hK, hD⟩, hS.F ht⟩) hS.2.2 dX6_pairs_55
        · refine lv_aload_n hx hb dX6_pairs_41 rfl (lv_at hl 0 rfl) ?_
          have hPc := hP.sub (ws' := [(bq, .inr (3, [.int (zI ((((aA n).length : Nat) : Int))), .ref li9])), (li9, .inr (1, [.int (zI (mo9)), .ref eA9, .int (zI ((((aK n).length : Nat) : Int)))]))]) [2, 3] rfl
          refine vp_callSi (va_runV (As := []) (rest := []) ⟨hx, hb, hml, hown, hts⟩ (c_X1_kinds l D t bq li9 eA9 (aK n).length (((aA n).length : Nat) : Int) mo9) (cwV 0 hts gX6_pairs_X1_kinds rfl rfl rfl (by decide +kernel) ⟨Nat.le_of_ble_eq_true rfl, Nat.le_of_ble_eq_true rfl⟩) ⟨fun a U g mk q => ⟨q.1, q.2.1, va_K.moved (u := U) (U := U.calling g mk a) (Vm.Alike.refl U.vm) q.2.2⟩, va_recv hK hPc (ci := 3) (q0 := 0) rfl rfl, fun U hU hW => ⟨rfl, by rw [hU]; exact hPc, va_K.moved hW.alike hK⟩⟩ rfl rfl hl.1 rfl (lv_room (Nat.le_of_ble_eq_true rfl)) dX6_pairs_42 ⟨Nat.le_of_ble_eq_true rfl, Nat.le_of_ble_eq_true rfl⟩).run (fun r hr42 => ?_)
          obtain rfl := hr42
          exact W.iret (v := (zI ((((aK n).length : Nat) : Int)))) hx hb hr (fun tq ht hW => ⟨⟨_, (bq, li9, eA9, mo9, f9, LP9, pv9), rfl, ⟨by rw [sp_pairs_n gn gw, if_neg (by omega), if_pos (by omega)], hr23.1, hr23.2⟩, by rw [ht]; exact hP, va_K.moved hW.alike hK, hD⟩, hS.F ht⟩) hS.2.2 dX6_pairs_45
      · refine lv_aload_n hx hb dX6_pairs_31 rfl (lv_at hl 0 rfl) ?_
        refine va_get (D := D) (ci := 3) (v := .int (zI ((((aA n).length : Nat) : Int)))) (C := RX1) (T := TX1) (N := 2) hx hb hts iX1 hown hK hP 2 rfl rfl 0 (by decide) (hts (.fieldLink RX6 169 "CancelRows$PairList" "many" "I") (by decide +kernel)) (fun _ h9 => h9) rfl dX6_pairs_32 ?_
        exact W.iret (v := (zI ((((aA n).length : Nat) : Int)))) hx hb hr (fun tq ht hW => ⟨⟨_, (bq, li9, eA9, mo9, f9, LP9, pv9), rfl, ⟨by rw [sp_pairs_n gn gw, if_pos (by omega)], hr23.1, hr23.2⟩, by rw [ht]; exact hP, va_K.moved hW.alike hK, hD⟩, hS.F ht⟩) hS.2.2 dX6_pairs_35
    · exact absurd (show (0 : Int) ≤ what ∧ what ≤ 3 by omega) c16

-- pair, known
set_option maxHeartbeats 4000000 in
set_option maxRecDepth 100000 in
theorem c_X6_pair_s (l : Launch) (D : va_G) (t : Nat → ClassId) (ad : Nat → Nat) (d0 tc : Nat) (x : Nat) (a : Nat → Nat) (R : Nat) (pl : Nat → Option Nat) (q li eA : Nat) (mo : Int) (f : Nat → Option Nat) (LP : List Nat) (pv : Nat → Int32) (n : Nat) (gn : 1 ≤ n ∧ n ≤ 8) (hs : pl n = some q) (hls : lsOK ad LP pv f (aK n)) (i : Int) (gi : 0 ≤ i ∧ i < 2147483648) : Met l yX6_pair wsX6_pair ({ frames := 4, cells := 0, slots := 0, locals := 85 }) (va_Pc [.ref x, .int (zI (n)), .int (zI (i))] (fun U => va_P D vwCl (([oX x a (((R : Nat) : Int)), aQ t 4 (a 3) 9 (pl), (q, .inr (3, [.int (zI ((((aA n).length : Nat) : Int))), .ref li])), (li, .inr (1, [.int (zI (mo)), .ref eA, .int (zI ((((aK n).length : Nat) : Int)))]))] ++ TT t (eA) ((aK n).length) (f) (LP) (pv))) U.heap ∧ va_K D vwCl (TY t) U ∧ jK ad d0 tc (fun _ => False) U U.heap)) (vp_Si (fun r => r = zI (sp_pair (n : Int) i))) 0 0 (fun _ => False) := by
  refine Met.ofW (cc := cX6_pair) (maxL := 4) (ret := (some .int)) (by decide) rfl ?_
  intro p e s m args below meth c s₁ B hml hv
  obtain ⟨rfl, hP, hK, hJ⟩ := hv
  have hS : va_S (fun _ => False) s.heap s.heap [] := va_S.rf
  have hx := B.exec
  have hb := B.bytes
  have hr := B.returns
  have hts := atoms_spec (ws := wsX6_pair) B.pre
  have hown : s.vm.findClass RX6 = some m.cls := findClass_of_methodNamed B.named
  have hlocks := B.notSynchronized
  have hl := lv_entry ([.ref x, .int (zI (n)), .int (zI (i))]) (n := 4) (Nat.le_of_ble_eq_true rfl)
  rw [lg_entry_eq]
  generalize (lg_sl ([.ref x, .int (zI (n)), .int (zI (i))]) ++ List.replicate (4 - (lg_sl ([.ref x, .int (zI (n)), .int (zI (i))])).length) Slot.unset).toArray = ls at hl ⊢
  have hl : lv_has ls 4 [(0, .ref x), (1, .int (zI (n))), (2, .int (zI (i)))] := hl
  refine lv_iload_n hx hb dX6_pair_0 rfl (lv_at hl 1 rfl) ?_
  refine lv_iconst (v := zI 1) hx hb dX6_pair_1 rfl ?_
  refine lv_bipush (v := zI 8) hx hb dX6_pair_2 (by decide +kernel) ?_
  refine vp_callSi (va_runS (As := [.int (zI (n)), .int (zI (1)), .int (zI (8))]) (rest := []) ⟨hx, hb, hml, hown, hts⟩ (c_X6_within l (n : Int) 1 8 (by omega) (by omega) (by omega)) (va_cwS 3 hts gX6_pair_X6_within rfl rfl rfl (by decide +kernel) ⟨Nat.le_of_ble_eq_true rfl, Nat.le_of_ble_eq_true rfl⟩) ⟨fun a U g mk q => q, fun U hU hW => ⟨rfl, trivial⟩⟩ rfl rfl hl.1 rfl (lv_room (Nat.le_of_ble_eq_true rfl)) dX6_pair_4 ⟨Nat.le_of_ble_eq_true rfl, Nat.le_of_ble_eq_true rfl⟩).run (fun r hr4 => ?_)
  obtain rfl := hr4
  refine z_ifb_eq (P := (1 : Int) ≤ (n : Int) ∧ (n : Int) ≤ 8) (tgt := 14) hx hb dX6_pair_7 (by decide) (fun c7 => ?_) (fun c7 => ?_)
  · exact absurd (show (1 : Int) ≤ (n : Int) ∧ (n : Int) ≤ 8 by omega) c7
  · refine lv_iload_n hx hb dX6_pair_10 rfl (lv_at hl 2 rfl) ?_
    refine z_if_ge (tgt := 16) hx hb dX6_pair_11 (by decide) (by omega) (fun c11 => ?_) (fun c11 => ?_)
    · refine lv_aload_n hx hb dX6_pair_16 rfl (lv_at hl 0 rfl) ?_
      refine lv_iload_n hx hb dX6_pair_17 rfl (lv_at hl 1 rfl) ?_
      have hPc := hP.sub (ws' := [oX x a (((R : Nat) : Int)), aQ t 4 (a 3) 9 (pl)]) [0, 1] rfl
      refine va_csq (va_runV (As := [.int (zI (n))]) (rest := []) ⟨hx, hb, hml, hown, hts⟩ (c_X6_pairListOf_s l D t x a R pl q n gn hs) (cwV 1 hts gX6_pair_X6_pairListOf rfl rfl rfl (by decide +kernel) ⟨Nat.le_of_ble_eq_true rfl, Nat.le_of_ble_eq_true rfl⟩) ⟨fun a U g mk q => ⟨q.1, q.2.1, va_K.moved (u := U) (U := U.calling g mk a) (Vm.Alike.refl U.vm) q.2.2⟩, va_recv hK hPc (ci := 5) (q0 := 0) rfl rfl, fun U hU hW => ⟨rfl, by rw [hU]; exact hPc, va_K.moved hW.alike hK⟩⟩ rfl rfl hl.1 rfl (lv_room (Nat.le_of_ble_eq_true rfl)) dX6_pair_18 ⟨Nat.le_of_ble_eq_true rfl, Nat.le_of_ble_eq_true rfl⟩).run (fun r hr18 => ?_)
      obtain rfl := hr18
      have g5 := pairs_all gn
      have g6 : (aA n).length ≤ 192 := g5.2.2.2.1
      have g7 : (aK n).length ≤ 5 := g5.2.2.1
      have g8 := aA_aK gn
      have g9 := hdd_lt gn
      refine lv_astore_n (lv' := [(3, .ref q), (0, .ref x), (1, .int (zI (n))), (2, .int (zI (i)))]) hx hb dX6_pair_21 rfl hl (by decide) rfl (fun ls hl => ?_)
      refine lv_iload_n hx hb dX6_pair_22 rfl (lv_at hl 3 rfl) ?_
      refine lv_aload_n hx hb dX6_pair_23 rfl (lv_at hl 0 rfl) ?_
      have hPc := hP.sub (ws' := [(q, .inr (3, [.int (zI ((((aA n).length : Nat) : Int))), .ref li])), (li, .inr (1, [.int (zI (mo)), .ref eA, .int (zI ((((aK n).length : Nat) : Int)))]))]) [2, 3] rfl
      refine vp_callSi (va_runV (As := []) (rest := [.int (zI (i))]) ⟨hx, hb, hml, hown, hts⟩ (c_X1_kinds l D t q li eA (aK n).length (((aA n).length : Nat) : Int) mo) (cwV 0 hts gX6_pair_X1_kinds rfl rfl rfl (by decide +kernel) ⟨Nat.le_of_ble_eq_true rfl, Nat.le_of_ble_eq_true rfl⟩) ⟨fun a U g mk q => ⟨q.1, q.2.1, va_K.moved (u := U) (U := U.calling g mk a) (Vm.Alike.refl U.vm) q.2.2⟩, va_recv hK hPc (ci := 3) (q0 := 0) rfl rfl, fun U hU hW => ⟨rfl, by rw [hU]; exact hPc, va_K.moved hW.alike hK⟩⟩ rfl rfl hl.1 rfl (lv_room (Nat.le_of_ble_eq_true rfl)) dX6_pair_24 ⟨Nat.le_of_ble_eq_true rfl, Nat.le_of_ble_eq_true rfl⟩).run (fun r hr24 => ?_)
      obtain rfl := hr24
      refine z_icmp_ge (tgt := 38) hx hb dX6_pair_27 (by decide) (by omega) (by omega) (fun c27 => ?_) (fun c27 => ?_)
      · refine lv_bipush (v := zI (-4)) hx hb dX6_pair_38 (by decide +kernel) ?_
        exact W.iret (v := (zI ((-4)))) hx hb hr (fun tq ht hW => ⟨_, rfl, by rw [sp_pair_n gn gi.1, if_neg (by omega)], ht⟩) (fun q h => by cases h) dX6_pair_40
      · refine lv_aload_n hx hb dX6_pair_30 rfl (lv_at hl 0 rfl) ?_
        have hkp : 0 < (aK n).length := by omega
        obtain ⟨y0, hf0, hb0⟩ := lsOK_at hls (i := i.toNat) (by omega)
        rw [TT_k t eA f LP pv hkp] at hP
        have hP : va_P D vwCl ([oX x a (((R : Nat) : Int)), aQ t 4 (a 3) 9 (pl), (q, .inr (3, [.int (zI ((((aA n).length : Nat) : Int))), .ref li])), (li, .inr (1, [.int (zI (mo)), .ref eA, .int (zI ((((aK n).length : Nat) : Int)))])), aQ t 6 eA 10 (f)] ++ PT (LP) (pv)) s.heap := hP
        refine lv_iload_n hx hb dX6_pair_31 rfl (lv_at hl 3 rfl) ?_
        refine z_re (e2 := ((i.toNat : Nat) : Int)) (by omega) ?_
        have hPc := hP.part (X := [oX x a (((R : Nat) : Int)), aQ t 4 (a 3) 9 (pl), (q, .inr (3, [.int (zI ((((aA n).length : Nat) : Int))), .ref li])), (li, .inr (1, [.int (zI (mo)), .ref eA, .int (zI ((((aK n).length : Nat) : Int)))])), aQ t 6 eA 10 (f)]) (cx := [(q, .inr (3, [.int (zI ((((aA n).length : Nat) : Int))), .ref li])), (li, .inr (1, [.int (zI (mo)), .ref eA, .int (zI ((((aK n).length : Nat) : Int)))])), aQ t 6 eA 10 (f)]) (pl := PT (LP) (pv)) [2, 3, 4] rfl
        refine vp_callSi (va_runV (As := [.int (zI (((i.toNat : Nat) : Int)))]) (rest := []) ⟨hx, hb, hml, hown, hts⟩ (c_X1_codeAt l D t ad d0 tc q li eA (aK n).length (((aA n).length : Nat) : Int) mo f LP pv (by omega) (i.toNat) y0 (((atL (aK n) (i.toNat) : Nat)) : Int) (by omega) hf0 hb0) (cwV 1 hts gX6_pair_X1_codeAt rfl rfl rfl (by decide +kernel) ⟨Nat.le_of_ble_eq_true rfl, Nat.le_of_ble_eq_true rfl⟩) ⟨fun a U g mk q => by obtain ⟨q0, qP, qK, qS0⟩ := q; exact ⟨q0, qP, va_K.moved (u := U) (U := U.calling g mk a) (Vm.Alike.refl U.vm) qK, qS0.moved (u := U) (U := U.calling g mk a) (Vm.Alike.refl U.vm)⟩, va_recv hK hPc (ci := 3) (q0 := 0) rfl rfl, fun U hU hW => ⟨rfl, by rw [hU]; exact hPc, va_K.moved hW.alike hK, by rw [hU]; exact (((hJ.kept hS.2.1).narrow (fun q h => h.elim))).moved hW.alike⟩⟩ rfl rfl hl.1 rfl (lv_room (Nat.le_of_ble_eq_true rfl)) dX6_pair_32 ⟨Nat.le_of_ble_eq_true rfl, Nat.le_of_ble_eq_true rfl⟩).run (fun r hr32 => ?_)
        obtain rfl := hr32
        refine lv_goto (tgt := 40) hx hb dX6_pair_35 (by decide) ?_
        exact W.iret (v := (zI ((((atL (aK n) (i.toNat) : Nat)) : Int)))) hx hb hr (fun tq ht hW => ⟨_, rfl, by rw [sp_pair_n gn gi.1, if_pos (by omega)], ht⟩) (fun q h => by cases h) dX6_pair_40
    · omega

-- pair, new
set_option maxHeartbeats 4000000 in
set_option maxRecDepth 100000 in
theorem c_X6_pair_n (l : Launch) (D : va_G) (t : Nat → ClassId) (sz : Nat) (ad : Nat → Nat) (d0 tc : Nat) (x : Nat) (a : Nat → Nat) (R : Nat) (pl : Nat → Option Nat) (n : Nat) (gn : 1 ≤ n ∧ n ≤ 8) (hs : pl n = none) (i : Int) (gi : 0 ≤ i ∧ i < 2147483648) : Met l yX6_pair wsX6_pair ({ frames := 8, cells := 12, slots := 60, locals := 186 }) (va_Pc [.ref x, .int (zI (n)), .int (zI (i))] (fun U => U.heap.size = sz ∧ va_P D vwCl ([oX x a (((R : Nat) : Int)), aQ t 4 (a 3) 9 (pl)]) U.heap ∧ va_K D vwCl (TY t) U ∧ va_D (fun _ => True) ([oX x a (((R : Nat) : Int)), aQ t 4 (a 3) 9 (pl)]) ∧ jK ad d0 tc (va_A ([oX x a (((R : Nat) : Int)), aQ t 4 (a 3) 9 (pl)]) sz) U U.heap)) (va_Qi (fun r (u : Nat × Nat × Nat × Int × (Nat → Option Nat) × List Nat × (Nat → Int32)) => r = zI (sp_pair (n : Int) i) ∧ lsOK ad u.2.2.2.2.2.1 u.2.2.2.2.2.2 u.2.2.2.2.1 (aK n) ∧ ((aK n).length = 0 → u.2.2.1 = d0)) (fun (u : Nat × Nat × Nat × Int × (Nat → Option Nat) × List Nat × (Nat → Int32)) t1 => va_P D vwCl (([oX x a (((R : Nat) : Int)), aQ t 4 (a 3) 9 (va_up pl n (some (u.1))), (u.1, .inr (3, [.int (zI ((((aA n).length : Nat) : Int))), .ref u.2.1])), (u.2.1, .inr (1, [.int (zI (u.2.2.2.1)), .ref u.2.2.1, .int (zI ((((aK n).length : Nat) : Int)))]))] ++ TT t (u.2.2.1) ((aK n).length) (u.2.2.2.2.1) (u.2.2.2.2.2.1) (u.2.2.2.2.2.2))) t1.heap ∧ va_K D vwCl (TY t) t1 ∧ va_D (va_A ([oX x a (((R : Nat) : Int)), aQ t 4 (a 3) 9 (pl)]) sz) (([oX x a (((R : Nat) : Int)), aQ t 4 (a 3) 9 (va_up pl n (some (u.1))), (u.1, .inr (3, [.int (zI ((((aA n).length : Nat) : Int))), .ref u.2.1])), (u.2.1, .inr (1, [.int (zI (u.2.2.2.1)), .ref u.2.2.1, .int (zI ((((aK n).length : Nat) : Int)))]))] ++ TT t (u.2.2.1) ((aK n).length) (u.2.2.2.2.1) (u.2.2.2.2.2.1) (u.2.2.2.2.2.2)))) (va_A ([oX x a (((R : Nat) : Int)), aQ t 4 (a 3) 9 (pl)]) sz)) 12 60 (va_A ([oX x a (((R : Nat) : Int)), aQ t 4 (a 3) 9 (pl)]) sz) := by
  refine Met.ofW (cc := cX6_pair) (maxL := 4) (ret := (some .int)) (by decide) rfl ?_
  intro p e s m args below meth c s₁ B hml hv
  obtain ⟨rfl, hsz, hP, hK, hD0, hJ⟩ := hv
  have hx := B.exec
  have hb := B.bytes
  have hr := B.returns
  have hts := atoms_spec (ws := wsX6_pair) B.pre
  have hown : s.vm.findClass RX6 = some m.cls := findClass_of_methodNamed B.named
  have hlocks := B.notSynchronized
  subst hsz
  have hD := hD0.self (sz := s.heap.size)
  generalize hAe : va_A ([oX x a (((R : Nat) : Int)), aQ t 4 (a 3) 9 (pl)]) s.heap.size = AA at hD hJ ⊢
  have hA : ∀ q : Nat, s.heap.size ≤ q → AA q := fun q h => by rw [← hAe]; exact Or.inr h
  have hS : va_S AA s.heap s.heap [] := va_S.rf
  have hP : va_P D vwCl ([oX x a (((R : Nat) : Int)), aQ t 4 (a 3) 9 (pl)]) s.heap := hP
  have hl := lv_entry ([.ref x, .int (zI (n)), .int (zI (i))]) (n := 4) (Nat.le_of_ble_eq_true rfl)
  rw [lg_entry_eq]
  generalize (lg_sl ([.ref x, .int (zI (n)), .int (zI (i))]) ++ List.replicate (4 - (lg_sl ([.ref x, .int (zI (n)), .int (zI (i))])).length) Slot.unset).toArray = ls at hl ⊢
  have hl : lv_has ls 4 [(0, .ref x), (1, .int (zI (n))), (2, .int (zI (i)))] := hl
  refine lv_iload_n hx hb dX6_pair_0 rfl (lv_at hl 1 rfl) ?_
  refine lv_iconst (v := zI 1) hx hb dX6_pair_1 rfl ?_
  refine lv_bipush (v := zI 8) hx hb dX6_pair_2 (by decide +kernel) ?_
  refine vp_callSi (va_runS (As := [.int (zI (n)), .int (zI (1)), .int (zI (8))]) (rest := []) ⟨hx, hb, hml, hown, hts⟩ (c_X6_within l (n : Int) 1 8 (by omega) (by omega) (by omega)) (va_cwS 3 hts gX6_pair_X6_within rfl rfl rfl (by decide +kernel) ⟨Nat.le_of_ble_eq_true rfl, Nat.le_of_ble_eq_true rfl⟩) ⟨fun a U g mk q => q, fun U hU hW => ⟨rfl, trivial⟩⟩ rfl rfl hl.1 rfl (lv_room (Nat.le_of_ble_eq_true rfl)) dX6_pair_4 ⟨Nat.le_of_ble_eq_true rfl, Nat.le_of_ble_eq_true rfl⟩).run (fun r hr4 => ?_)
  obtain rfl := hr4
  refine z_ifb_eq (P := (1 : Int) ≤ (n : Int) ∧ (n : Int) ≤ 8) (tgt := 14) hx hb dX6_pair_7 (by decide) (fun c7 => ?_) (fun c7 => ?_)
  · exact absurd (show (1 : Int) ≤ (n : Int) ∧ (n : Int) ≤ 8 by omega) c7
  · refine lv_iload_n hx hb dX6_pair_10 rfl (lv_at hl 2 rfl) ?_
    refine z_if_ge (tgt := 16) hx hb dX6_pair_11 (by decide) (by omega) (fun c11 => ?_) (fun c11 => ?_)
    · refine lv_aload_n hx hb dX6_pair_16 rfl (lv_at hl 0 rfl) ?_
      refine lv_iload_n hx hb dX6_pair_17 rfl (lv_at hl 1 rfl) ?_
      have hPc := hP.sub (ws' := [oX x a (((R : Nat) : Int)), aQ t 4 (a 3) 9 (pl)]) [0, 1] rfl
      have hDc := hD.sub (ws' := [oX x a (((R : Nat) : Int)), aQ t 4 (a 3) 9 (pl)]) [0, 1] (by decide) rfl
      have hFc := va_free (wc := [oX x a (((R : Nat) : Int)), aQ t 4 (a 3) 9 (pl)]) hD hS hA [0, 1] rfl
      refine va_callr (va_runV (As := [.int (zI (n))]) (rest := []) ⟨hx, hb, hml, hown, hts⟩ (c_X6_pairListOf_n l D t s.heap.size ad d0 tc x a R pl n gn hs) (cwV 1 hts gX6_pair_X6_pairListOf rfl rfl rfl (by decide +kernel) ⟨Nat.le_of_ble_eq_true rfl, Nat.le_of_ble_eq_true rfl⟩) ⟨fun a U g mk q => by obtain ⟨q0, q1, qP, qK, qD, qS0⟩ := q; exact ⟨q0, q1, qP, va_K.moved (u := U) (U := U.calling g mk a) (Vm.Alike.refl U.vm) qK, qD, qS0.moved (u := U) (U := U.calling g mk a) (Vm.Alike.refl U.vm)⟩, va_recv hK hPc (ci := 5) (q0 := 0) rfl rfl, fun U hU hW => ⟨rfl, by rw [hU], by rw [hU]; exact hPc, va_K.moved hW.alike hK, hDc.weaken (fun _ _ _ _ => trivial), by rw [hU]; exact (((hJ.kept hS.2.1).narrow hFc)).moved hW.alike⟩⟩ rfl rfl hl.1 rfl (lv_room (Nat.le_of_ble_eq_true rfl)) dX6_pair_18 ⟨Nat.le_of_ble_eq_true rfl, Nat.le_of_ble_eq_true rfl⟩) hS (fun q _ h => hFc q h) hFc (fun u bq tq H1 locs ht hvm hr18 hB hz1 hk1 hS => ?_)
      obtain ⟨li9, eA9, mo9, f9, LP9, pv9⟩ := u
      obtain ⟨hP1, hK1, hD1⟩ := hB
      rw [ht] at hP1
      obtain ⟨hP, hD⟩ := va_join (wr := []) (w1 := ([oX x a (((R : Nat) : Int)), aQ t 4 (a 3) 9 (va_up pl n (some (bq))), (bq, .inr (3, [.int (zI ((((aA n).length : Nat) : Int))), .ref li9])), (li9, .inr (1, [.int (zI (mo9)), .ref eA9, .int (zI ((((aK n).length : Nat) : Int)))]))] ++ TT t (eA9) ((aK n).length) (f9) (LP9) (pv9))) hP hD [0, 1] [] rfl rfl (by decide) (by decide) hk1 hFc hP1 hD1
      generalize H1 = H at hP hS ⊢
      have hP : va_P D vwCl ([oX x a (((R : Nat) : Int)), aQ t 4 (a 3) 9 (va_up pl n (some (bq))), (bq, .inr (3, [.int (zI ((((aA n).length : Nat) : Int))), .ref li9])), (li9, .inr (1, [.int (zI (mo9)), .ref eA9, .int (zI ((((aK n).length : Nat) : Int)))]))] ++ TT t (eA9) ((aK n).length) (f9) (LP9) (pv9)) H := hP
      have hD : va_D AA ([oX x a (((R : Nat) : Int)), aQ t 4 (a 3) 9 (va_up pl n (some (bq))), (bq, .inr (3, [.int (zI ((((aA n).length : Nat) : Int))), .ref li9])), (li9, .inr (1, [.int (zI (mo9)), .ref eA9, .int (zI ((((aK n).length : Nat) : Int)))]))] ++ TT t (eA9) ((aK n).length) (f9) (LP9) (pv9)) := hD
      have g5 := pairs_all gn
      have g6 : (aA n).length ≤ 192 := g5.2.2.2.1
      have g7 : (aK n).length ≤ 5 := g5.2.2.1
      have g8 := aA_aK gn
      have g9 := hdd_lt gn
      refine lv_astore_n (lv' := [(3, .ref bq), (0, .ref x), (1, .int (zI (n))), (2, .int (zI (i)))]) hx hb dX6_pair_21 rfl hl (by decide) rfl (fun ls hl => ?_)
      refine lv_iload_n hx hb dX6_pair_22 rfl (lv_at hl 3 rfl) ?_
      refine lv_aload_n hx hb dX6_pair_23 rfl (lv_at hl 0 rfl) ?_
      have hPc := hP.sub (ws' := [(bq, .inr (3, [.int (zI ((((aA n).length : Nat) : Int))), .ref li9])), (li9, .inr (1, [.int (zI (mo9)), .ref eA9, .int (zI ((((aK n).length : Nat) : Int)))]))]) [2, 3] rfl
      refine vp_callSi (va_runV (As := []) (rest := [.int (zI (i))]) ⟨hx, hb, hml, hown, hts⟩ (c_X1_kinds l D t bq li9 eA9 (aK n).length (((aA n).length : Nat) : Int) mo9) (cwV 0 hts gX6_pair_X1_kinds rfl rfl rfl (by decide +kernel) ⟨Nat.le_of_ble_eq_true rfl, Nat.le_of_ble_eq_true rfl⟩) ⟨fun a U g mk q => ⟨q.1, q.2.1, va_K.moved (u := U) (U := U.calling g mk a) (Vm.Alike.refl U.vm) q.2.2⟩, va_recv hK hPc (ci := 3) (q0 := 0) rfl rfl, fun U hU hW => ⟨rfl, by rw [hU]; exact hPc, va_K.moved hW.alike hK⟩⟩ rfl rfl hl.1 rfl (lv_room (Nat.le_of_ble_eq_true rfl)) dX6_pair_24 ⟨Nat.le_of_ble_eq_true rfl, Nat.le_of_ble_eq_true rfl⟩).run (fun r hr24 => ?_)
      obtain rfl := hr24
      refine z_icmp_ge (tgt := 38) hx hb dX6_pair_27 (by decide) (by omega) (by omega) (fun c27 => ?_) (fun c27 => ?_)
      · refine lv_bipush (v := zI (-4)) hx hb dX6_pair_38 (by decide +kernel) ?_
        exact W.iret (v := (zI ((-4)))) hx hb hr (fun tq ht hW => ⟨⟨_, (bq, li9, eA9, mo9, f9, LP9, pv9), rfl, ⟨by rw [sp_pair_n gn gi.1, if_neg (by omega)], hr18.1, hr18.2⟩, by rw [ht]; exact hP, va_K.moved hW.alike hK, hD⟩, hS.F ht⟩) hS.2.2 dX6_pair_40
      · refine lv_aload_n hx hb dX6_pair_30 rfl (lv_at hl 0 rfl) ?_
        have hkp : 0 < (aK n).length := by omega
        obtain ⟨y0, hf0, hb0⟩ := lsOK_at hr18.1 (i := i.toNat) (by omega)
        rw [TT_k t eA9 f9 LP9 pv9 hkp] at hP hD
        have hP : va_P D vwCl ([oX x a (((R : Nat) : Int)), aQ t 4 (a 3) 9 (va_up pl n (some (bq))), (bq, .inr (3, [.int (zI ((((aA n).length : Nat) : Int))), .ref li9])), (li9, .inr (1, [.int (zI (mo9)), .ref eA9, .int (zI ((((aK n).length : Nat) : Int)))])), aQ t 6 eA9 10 (f9)] ++ PT (LP9) (pv9)) H := hP
        have hD : va_D AA ([oX x a (((R : Nat) : Int)), aQ t 4 (a 3) 9 (va_up pl n (some (bq))), (bq, .inr (3, [.int (zI ((((aA n).length : Nat) : Int))), .ref li9])), (li9, .inr (1, [.int (zI (mo9)), .ref eA9, .int (zI ((((aK n).length : Nat) : Int)))])), aQ t 6 eA9 10 (f9)] ++ PT (LP9) (pv9)) := hD
        refine lv_iload_n hx hb dX6_pair_31 rfl (lv_at hl 3 rfl) ?_
        refine z_re (e2 := ((i.toNat : Nat) : Int)) (by omega) ?_
        have hPc := hP.part (X := [oX x a (((R : Nat) : Int)), aQ t 4 (a 3) 9 (va_up pl n (some (bq))), (bq, .inr (3, [.int (zI ((((aA n).length : Nat) : Int))), .ref li9])), (li9, .inr (1, [.int (zI (mo9)), .ref eA9, .int (zI ((((aK n).length : Nat) : Int)))])), aQ t 6 eA9 10 (f9)]) (cx := [(bq, .inr (3, [.int (zI ((((aA n).length : Nat) : Int))), .ref li9])), (li9, .inr (1, [.int (zI (mo9)), .ref eA9, .int (zI ((((aK n).length : Nat) : Int)))])), aQ t 6 eA9 10 (f9)]) (pl := PT (LP9) (pv9)) [2, 3, 4] rfl
        refine vp_callSi (va_runV (As := [.int (zI (((i.toNat : Nat) : Int)))]) (rest := []) ⟨hx, hb, hml, hown, hts⟩ (c_X1_codeAt l D t ad d0 tc bq li9 eA9 (aK n).length (((aA n).length : Nat) : Int) mo9 f9 LP9 pv9 (by omega) (i.toNat) y0 (((atL (aK n) (i.toNat) : Nat)) : Int) (by omega) hf0 hb0) (cwV 1 hts gX6_pair_X1_codeAt rfl rfl rfl (by decide +kernel) ⟨Nat.le_of_ble_eq_true rfl, Nat.le_of_ble_eq_true rfl⟩) ⟨fun a U g mk q => by obtain ⟨q0, qP, qK, qS0⟩ := q; exact ⟨q0, qP, va_K.moved (u := U) (U := U.calling g mk a) (Vm.Alike.refl U.vm) qK, qS0.moved (u := U) (U := U.calling g mk a) (Vm.Alike.refl U.vm)⟩, va_recv hK hPc (ci := 3) (q0 := 0) rfl rfl, fun U hU hW => ⟨rfl, by rw [hU]; exact hPc, va_K.moved hW.alike hK, by rw [hU]; exact (((hJ.kept hS.2.1).narrow (fun q h => h.elim))).moved hW.alike⟩⟩ rfl rfl hl.1 rfl (lv_room (Nat.le_of_ble_eq_true rfl)) dX6_pair_32 ⟨Nat.le_of_ble_eq_true rfl, Nat.le_of_ble_eq_true rfl⟩).run (fun r hr32 => ?_)
        obtain rfl := hr32
        refine lv_goto (tgt := 40) hx hb dX6_pair_35 (by decide) ?_
        have hP : va_P D vwCl ([oX x a (((R : Nat) : Int)), aQ t 4 (a 3) 9 (va_up pl n (some (bq))), (bq, .inr (3, [.int (zI ((((aA n).length : Nat) : Int))), .ref li9])), (li9, .inr (1, [.int (zI (mo9)), .ref eA9, .int (zI ((((aK n).length : Nat) : Int)))]))] ++ TT t (eA9) ((aK n).length) (f9) (LP9) (pv9)) H := by rw [TT_k t eA9 f9 LP9 pv9 hkp]; exact hP
        have hD : va_D AA ([oX x a (((R : Nat) : Int)), aQ t 4 (a 3) 9 (va_up pl n (some (bq))), (bq, .inr (3, [.int (zI ((((aA n).length : Nat) : Int))), .ref li9])), (li9, .inr (1, [.int (zI (mo9)), .ref eA9, .int (zI ((((aK n).length : Nat) : Int)))]))] ++ TT t (eA9) ((aK n).length) (f9) (LP9) (pv9)) := by rw [TT_k t eA9 f9 LP9 pv9 hkp]; exact hD
        exact W.iret (v := (zI ((((atL (aK n) (i.toNat) : Nat)) : Int)))) hx hb hr (fun tq ht hW => ⟨⟨_, (bq, li9, eA9, mo9, f9, LP9, pv9), rfl, ⟨by rw [sp_pair_n gn gi.1, if_pos (by omega)], hr18.1, hr18.2⟩, by rw [ht]; exact hP, va_K.moved hW.alike hK, hD⟩, hS.F ht⟩) hS.2.2 dX6_pair_40
    · omega
