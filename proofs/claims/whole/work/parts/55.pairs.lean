/-! PairList, pairs, pair -/
theorem hdd_atL : ∀ l : List Nat, atL l 0 = hdd l
  | [] => rfl
  | _ :: _ => rfl
theorem lsOK_at {ad : Nat → Nat} {LP : List Nat} {pv : Nat → Int32} {f : Nat → Option Nat} {cs : List Nat} (h : lsOK ad LP pv f cs) {i : Nat} (hi : i < cs.length) : ∃ y, f i = some y ∧ vb_bx LP pv ad y (zI ((atL cs i : Nat) : Int)) := by
  have e : cs[i]? = some cs[i] := List.getElem?_eq_getElem hi
  have e2 : atL cs i = cs[i] := by unfold atL; rw [e]; rfl
  rw [e2]
  exact h i _ e
theorem hdd_head (l : List Nat) : l.head? = if l.length = 0 then none else some (hdd l) := by cases l <;> rfl
theorem aA_aK {n : Nat} (gn : 1 ≤ n ∧ n ≤ 8) : ((aK n).length = 0 ↔ (aA n).length = 0) ∧ hdd (aK n) = hdd (aA n) := by
  have p := (pairs_all gn).2.2.2.2.1
  rw [hdd_head, hdd_head] at p
  by_cases h1 : (aA n).length = 0 <;> by_cases h2 : (aK n).length = 0
  · rw [List.eq_nil_of_length_eq_zero h1, List.eq_nil_of_length_eq_zero h2]
    exact ⟨Iff.rfl, rfl⟩
  · rw [if_pos h1, if_neg h2] at p; cases p
  · rw [if_neg h1, if_pos h2] at p; cases p
  · rw [if_neg h1, if_neg h2] at p
    exact ⟨⟨fun z => absurd z h2, fun z => absurd z h1⟩, (Option.some.inj p).symm⟩
-- PairList(n)
set_option maxHeartbeats 4000000 in
set_option maxRecDepth 100000 in
theorem c_X1_init (l : Launch) (D : va_G) (t : Nat → ClassId) (sz : Nat) (ad : Nat → Nat) (d0 tc : Nat) (q n : Nat) (gn : 1 ≤ n ∧ n ≤ 8) : Met l yX1_init wsX1_init ({ frames := 6, cells := 11, slots := 58, locals := 141 }) (va_Pc [.ref q, .int (zI (n))] (fun U => U.heap.size = sz ∧ va_P D vwCl ([(q, .inr (3, [.int (zI (0)), .null]))]) U.heap ∧ va_K D vwCl (TY t) U ∧ va_D (fun _ => True) ([(q, .inr (3, [.int (zI (0)), .null]))]) ∧ jK ad d0 tc (va_A ([(q, .inr (3, [.int (zI (0)), .null]))]) sz) U U.heap)) (va_Qv (fun (u : Nat × Nat × Int × (Nat → Option Nat) × List Nat × (Nat → Int32)) => lsOK ad u.2.2.2.2.1 u.2.2.2.2.2 u.2.2.2.1 (aK n) ∧ ((aK n).length = 0 → u.2.1 = d0)) (fun (u : Nat × Nat × Int × (Nat → Option Nat) × List Nat × (Nat → Int32)) t1 => va_P D vwCl (([(q, .inr (3, [.int (zI ((((aA n).length : Nat) : Int))), .ref u.1])), (u.1, .inr (1, [.int (zI (u.2.2.1)), .ref u.2.1, .int (zI ((((aK n).length : Nat) : Int)))]))] ++ TT t (u.2.1) ((aK n).length) (u.2.2.2.1) (u.2.2.2.2.1) (u.2.2.2.2.2))) t1.heap ∧ va_K D vwCl (TY t) t1 ∧ va_D (va_A ([(q, .inr (3, [.int (zI (0)), .null]))]) sz) (([(q, .inr (3, [.int (zI ((((aA n).length : Nat) : Int))), .ref u.1])), (u.1, .inr (1, [.int (zI (u.2.2.1)), .ref u.2.1, .int (zI ((((aK n).length : Nat) : Int)))]))] ++ TT t (u.2.1) ((aK n).length) (u.2.2.2.1) (u.2.2.2.2.1) (u.2.2.2.2.2)))) (va_A ([(q, .inr (3, [.int (zI (0)), .null]))]) sz)) 11 58 (va_A ([(q, .inr (3, [.int (zI (0)), .null]))]) sz) := by
  refine Met.ofW (cc := cX1_init) (maxL := 5) (ret := none) (by decide) rfl ?_
  intro p e s m args below meth c s₁ B hml hv
  obtain ⟨rfl, hsz, hP, hK, hD0, hJ⟩ := hv
  have hx := B.exec
  have hb := B.bytes
  have hr := B.returns
  have hts := atoms_spec (ws := wsX1_init) B.pre
  have hown : s.vm.findClass RX1 = some m.cls := findClass_of_methodNamed B.named
  have hlocks := B.notSynchronized
  have hin : meth.name = "<init>" := (name_of_methodNamed B.named B.method).1
  subst hsz
  have hD := hD0.self (sz := s.heap.size)
  generalize hAe : va_A ([(q, .inr (3, [.int (zI (0)), .null]))]) s.heap.size = AA at hD hJ ⊢
  have hA : ∀ q : Nat, s.heap.size ≤ q → AA q := fun q h => by rw [← hAe]; exact Or.inr h
  have hS : va_S AA s.heap s.heap [] := va_S.rf
  have hP : va_P D vwCl ([(q, .inr (3, [.int (zI (0)), .null]))]) s.heap := hP
  have hl := lv_entry ([.ref q, .int (zI (n))]) (n := 5) (Nat.le_of_ble_eq_true rfl)
  rw [lg_entry_eq]
  generalize (lg_sl ([.ref q, .int (zI (n))]) ++ List.replicate (5 - (lg_sl ([.ref q, .int (zI (n))])).length) Slot.unset).toArray = ls at hl ⊢
  have hl : lv_has ls 5 [(0, .ref q), (1, .int (zI (n)))] := hl
  have iJx4a65c : ∀ w ∈ u_ws RJx4a65c TJx4a65c 3, w ∈ wsX1_init := by decide +kernel
  have iX1 : ∀ w ∈ u_ws RX1 TX1 2, w ∈ wsX1_init := by decide +kernel
  have b0 := pw7 gn
  refine lv_aload_n hx hb dX1_init_0 rfl (lv_at hl 0 rfl) ?_
  refine W.objInit hx hb hown (hts (.methodLink RX1 1 objectInit) (by decide +kernel)) (hts (.instanceMethod objectInit) (by decide +kernel)) (hts (.code objectInit ⟨#[0xb1]⟩ 1 none) (by decide +kernel)) rfl (by rw [hml]; exact hl.1) rfl dX1_init_1 (Nat.le_of_ble_eq_true rfl) (Nat.le_of_ble_eq_true rfl) ?_
  refine W.eq (g2 := F0 m 4 ls []) rfl ?_
  refine lv_aload_n hx hb dX1_init_4 rfl (lv_at hl 0 rfl) ?_
  refine lv_iconst (v := zI 0) hx hb dX1_init_5 rfl ?_
  refine z_re (e2 := ((0 : Nat) : Int)) (rfl) ?_
  refine va_put (D := D) (ci := 3) (v := .int (zI (((0 : Nat) : Int)))) (ty := .int) (C := RX1) (T := TX1) (N := 2) hx hb hts iX1 tyX1 tyX1_ok nmX1 hown hK hP hD hS 0 rfl rfl 0 (by decide) (hts (.fieldLink RX1 7 "CancelRows$PairList" "many" "I") (by decide +kernel)) (fun _ h9 => h9) rfl (by decide +kernel) rfl rfl (Nat.le_of_ble_eq_true rfl) dX1_init_6 (fun H locs hP hD hS => ?_)
  have hP : va_P D vwCl [(q, .inr (3, [.int (zI (((0 : Nat) : Int))), .null]))] H := hP
  have hD : va_D AA [(q, .inr (3, [.int (zI (((0 : Nat) : Int))), .null]))] := hD
  refine lv_aload_n hx hb dX1_init_9 rfl (lv_at hl 0 rfl) ?_
  refine va_new (ci := 1) (fs := [.int (zI (0)), .null, .int (zI (0))]) (C := RJx4a65c) (T := TJx4a65c) (N := 3) hx hb hts iJx4a65c tyJx4a65c tyJx4a65c_ok hown (hts (.classLink RX1 13 RJx4a65c) (by decide +kernel)) (hts (.instantiable RJx4a65c 3) (by decide +kernel)) (hts (.initialized RJx4a65c) (by decide +kernel)) hK hP hD hS hA rfl (fun j hj => by rcases (show j = 0 ∨ j = 1 ∨ j = 2 by omega) with rfl | rfl | rfl <;> rfl) (Nat.le_of_ble_eq_true rfl) (Nat.le_of_ble_eq_true rfl) dX1_init_10 (fun q10 H hP hD hS => ?_)
  have hP : va_P D vwCl [(q, .inr (3, [.int (zI (((0 : Nat) : Int))), .null])), (q10, .inr (1, [.int (zI (0)), .null, .int (zI (0))]))] H := hP
  have hD : va_D AA [(q, .inr (3, [.int (zI (((0 : Nat) : Int))), .null])), (q10, .inr (1, [.int (zI (0)), .null, .int (zI (0))]))] := hD
  refine W.widen (k := 1) (n := 3) (by omega) (by omega) ?_
  refine lv_dup hx hb dX1_init_13 rfl ?_
  have hPc := hP.sub (ws' := [(q10, .inr (1, [.int (zI (0)), .null, .int (zI (0))]))]) [1] rfl
  have hDc := hD.sub (ws' := [(q10, .inr (1, [.int (zI (0)), .null, .int (zI (0))]))]) [1] (by decide) rfl
  have hFc := va_free (wc := [(q10, .inr (1, [.int (zI (0)), .null, .int (zI (0))]))]) hD hS hA [1] rfl
  refine va_callv (va_runI (As := []) (rest := [.ref q10, .ref q]) ⟨hx, hb, hml, hown, hts⟩ (c_Jx4a65c_init_da8c8 l D t H.size ad d0 tc q10) (cwI 0 hts gX1_init_Jx4a65c_init_da8c8 rfl rfl rfl (hts (.initialized RJx4a65c) (by decide +kernel)) (hts (.methodLink RX1 15 yJx4a65c_init_da8c8) (by decide +kernel)) (hts (.instanceMethod yJx4a65c_init_da8c8) (by decide +kernel)) rfl (by decide +kernel) ⟨Nat.le_of_ble_eq_true rfl, Nat.le_of_ble_eq_true rfl⟩) ⟨fun a U g mk q => by obtain ⟨q0, q1, qP, qK, qD, qS0⟩ := q; exact ⟨q0, q1, qP, va_K.moved (u := U) (U := U.calling g mk a) (Vm.Alike.refl U.vm) qK, qD, qS0.moved (u := U) (U := U.calling g mk a) (Vm.Alike.refl U.vm)⟩, fun U hU hW => ⟨rfl, by rw [hU], by rw [hU]; exact hPc, va_K.moved hW.alike hK, hDc.weaken (fun _ _ _ _ => trivial), by rw [hU]; exact (((hJ.kept hS.2.1).narrow hFc)).moved hW.alike⟩⟩ rfl rfl hl.1 rfl (lv_room (Nat.le_of_ble_eq_true rfl)) dX1_init_14 ⟨Nat.le_of_ble_eq_true rfl, Nat.le_of_ble_eq_true rfl⟩) hS (fun q _ h => hFc q h) hFc (fun u tq H1 locs ht hvm hr14 hB hz1 hk1 hS => ?_)
  obtain ⟨hP1, hK1, hD1⟩ := hB
  rw [ht] at hP1
  obtain ⟨hP, hD⟩ := va_join (wr := [(q, .inr (3, [.int (zI (((0 : Nat) : Int))), .null]))]) (w1 := [(q10, .inr (1, [.int (zI (0)), .ref d0, .int (zI (0))]))]) hP hD [1] [0] rfl rfl (by decide) (by decide) hk1 hFc hP1 hD1
  generalize H1 = H at hP hS ⊢
  have hP : va_P D vwCl [(q, .inr (3, [.int (zI (((0 : Nat) : Int))), .null])), (q10, .inr (1, [.int (zI (0)), .ref d0, .int (zI (0))]))] H := hP
  have hD : va_D AA [(q, .inr (3, [.int (zI (((0 : Nat) : Int))), .null])), (q10, .inr (1, [.int (zI (0)), .ref d0, .int (zI (0))]))] := hD
  try dsimp only at hr14
  refine va_putF (D := D) (ci := 3) (v := .ref q10) (ty := .object "java/util/ArrayList") (C := RX1) (T := TX1) (N := 2) hx hb hts iX1 tyX1 tyX1_ok nmX1 hown hK hP hD hS 0 rfl rfl 1 (by decide) (hts (.fieldLink RX1 16 "CancelRows$PairList" "codes" "Ljava/util/ArrayList;") (by decide +kernel)) (fun _ h9 => h9) rfl hin rfl (by decide +kernel) rfl rfl (Nat.le_of_ble_eq_true rfl) dX1_init_17 (fun H locs hP hD hS => ?_)
  have hP : va_P D vwCl [(q, .inr (3, [.int (zI (((0 : Nat) : Int))), .ref q10])), (q10, .inr (1, [.int (zI (0)), .ref d0, .int (zI (0))]))] H := hP
  have hD : va_D AA [(q, .inr (3, [.int (zI (((0 : Nat) : Int))), .ref q10])), (q10, .inr (1, [.int (zI (0)), .ref d0, .int (zI (0))]))] := hD
  refine lv_iconst (v := zI 1) hx hb dX1_init_20 rfl ?_
  refine lv_iload_n hx hb dX1_init_21 rfl (lv_at hl 1 rfl) ?_
  refine lv_iconst (v := zI 1) hx hb dX1_init_22 rfl ?_
  refine z_isub hx hb dX1_init_23 ?_
  refine z_re (e2 := ((n - 1 : Nat) : Int)) (by omega) ?_
  refine z_ishl hx hb (q := n - 1) (by omega) dX1_init_24 ?_
  refine z_re (e2 := ((2 ^ (n - 1) : Nat) : Int)) (by rw [Int.one_mul]; exact (Int.natCast_pow 2 (n - 1)).symm) ?_
  refine lv_istore_n (lv' := [(2, .int (zI (((2 ^ (n - 1) : Nat) : Int)))), (0, .ref q), (1, .int (zI (n)))]) hx hb dX1_init_25 rfl hl (by decide) rfl (fun ls hl => ?_)
  refine lv_iconst (v := zI 0) hx hb dX1_init_26 rfl ?_
  refine z_re (e2 := ((0 : Nat) : Int)) (rfl) ?_
  have hP : va_P D vwCl ([(q, .inr (3, [.int (zI (((0 : Nat) : Int))), .ref q10])), (q10, .inr (1, [.int (zI (0)), .ref d0, .int (zI (((0 : Nat) : Int)))]))] ++ TT t d0 0 (fun _ => none) [] (fun _ => 0)) H := hP
  have hD : va_D AA ([(q, .inr (3, [.int (zI (((0 : Nat) : Int))), .ref q10])), (q10, .inr (1, [.int (zI (0)), .ref d0, .int (zI (((0 : Nat) : Int)))]))] ++ TT t d0 0 (fun _ => none) [] (fun _ => 0)) := hD
  refine lv_istore_n (lv' := [(3, .int (zI (((0 : Nat) : Int)))), (2, .int (zI (((2 ^ (n - 1) : Nat) : Int)))), (0, .ref q), (1, .int (zI (n)))]) hx hb dX1_init_27 rfl hl (by decide) rfl (fun ls hl => ?_)
  have lp28 : ∀ (NN : Nat) (a : Nat) (mk : Nat) (k : Nat) (eA : Nat) (mo : Int) (f : Nat → Option Nat) (LP : List Nat) (pv : Nat → Int32) (q1 : a ≤ 2 ^ (n - 1)) (q2 : qI ad d0 n a 0 mk k eA f LP pv), 2 ^ (n - 1) - a < NN → ∀ (H : Heap) (locs : List Loc), va_P D vwCl ([(q, .inr (3, [.int (zI (((mk : Nat) : Int))), .ref q10])), (q10, .inr (1, [.int (zI (mo)), .ref eA, .int (zI (((k : Nat) : Int)))]))] ++ TT t eA k f LP pv) H → va_D AA ([(q, .inr (3, [.int (zI (((mk : Nat) : Int))), .ref q10])), (q10, .inr (1, [.int (zI (mo)), .ref eA, .int (zI (((k : Nat) : Int)))]))] ++ TT t eA k f LP pv) → va_S AA s.heap H locs → ∀ (ls : Array Slot), lv_has ls 5 [(0, .ref q), (1, .int (zI (n))), (2, .int (zI (((2 ^ (n - 1) : Nat) : Int)))), (3, .int (zI (a)))] → W p l e (headSpec wsX1_init ({ frames := 6, cells := 11, slots := 58, locals := 141 })).room s m ([.ref q, .int (zI (n))] : List Value).toArray below meth c H locs (1 + 2 * k) (3 + 11 * k) (MQ below (va_Qv (fun (u : Nat × Nat × Int × (Nat → Option Nat) × List Nat × (Nat → Int32)) => lsOK ad u.2.2.2.2.1 u.2.2.2.2.2 u.2.2.2.1 (aK n) ∧ ((aK n).length = 0 → u.2.1 = d0)) (fun (u : Nat × Nat × Int × (Nat → Option Nat) × List Nat × (Nat → Int32)) t1 => va_P D vwCl (([(q, .inr (3, [.int (zI ((((aA n).length : Nat) : Int))), .ref u.1])), (u.1, .inr (1, [.int (zI (u.2.2.1)), .ref u.2.1, .int (zI ((((aK n).length : Nat) : Int)))]))] ++ TT t (u.2.1) ((aK n).length) (u.2.2.2.1) (u.2.2.2.2.1) (u.2.2.2.2.2))) t1.heap ∧ va_K D vwCl (TY t) t1 ∧ va_D (AA) (([(q, .inr (3, [.int (zI ((((aA n).length : Nat) : Int))), .ref u.1])), (u.1, .inr (1, [.int (zI (u.2.2.1)), .ref u.2.1, .int (zI ((((aK n).length : Nat) : Int)))]))] ++ TT t (u.2.1) ((aK n).length) (u.2.2.2.1) (u.2.2.2.2.1) (u.2.2.2.2.2)))) (AA)) ([.ref q, .int (zI (n))] : List Value).toArray s 11 58 (AA)) (F0 m 28 ls []) := by
    intro NN
    induction NN with
    | zero =>
      intro a mk k eA mo f LP pv q1 q2 hmu
      exact absurd hmu (Nat.not_lt_zero _)
    | succ NN ih28 =>
      intro a mk k eA mo f LP pv q1 q2 hmu H locs hP hD hS ls hl
      refine lv_iload_n hx hb dX1_init_28 rfl (lv_at hl 3 rfl) ?_
      refine lv_iload_n hx hb dX1_init_29 rfl (lv_at hl 2 rfl) ?_
      refine z_icmp_ge (tgt := 84) hx hb dX1_init_30 (by decide) (by omega) (by omega) (fun c30 => ?_) (fun c30 => ?_)
      · have hq := qI_all gn (by rw [show a = 2 ^ (n - 1) by omega] at q2; exact q2)
        obtain ⟨e1, e2, e3, e4⟩ := hq
        rw [e1, e2] at hP hD
        have hP : va_P D vwCl ([(q, .inr (3, [.int (zI ((((aA n).length : Nat) : Int))), .ref q10])), (q10, .inr (1, [.int (zI (mo)), .ref eA, .int (zI ((((aK n).length : Nat) : Int)))]))] ++ TT t (eA) ((aK n).length) (f) (LP) (pv)) H := hP
        have hD : va_D AA ([(q, .inr (3, [.int (zI ((((aA n).length : Nat) : Int))), .ref q10])), (q10, .inr (1, [.int (zI (mo)), .ref eA, .int (zI ((((aK n).length : Nat) : Int)))]))] ++ TT t (eA) ((aK n).length) (f) (LP) (pv)) := hD
        have b9 := (pairs_all gn).2.2.1
        have b9 : (aK n).length ≤ 5 := b9
        refine W.widen (k := 11) (n := 58) (by omega) (by omega) ?_
        exact W.vret hx hb hr (fun tq ht hW => ⟨⟨(q10, eA, mo, f, LP, pv), rfl, ⟨e3, e4⟩, by rw [ht]; exact hP, va_K.moved hW.alike hK, hD⟩, hS.F ht⟩) hS.2.2 dX1_init_84
      · refine lv_iconst (v := zI 0) hx hb dX1_init_33 rfl ?_
        refine z_re (e2 := ((0 : Nat) : Int)) (rfl) ?_
        refine lv_istore (lv' := [(4, .int (zI (((0 : Nat) : Int)))), (0, .ref q), (1, .int (zI (n))), (2, .int (zI (((2 ^ (n - 1) : Nat) : Int)))), (3, .int (zI (a)))]) hx hb dX1_init_34 hl (by decide) rfl (fun ls hl => ?_)
        have lp36 : ∀ (NN : Nat) (b1 : Nat) (mk : Nat) (k : Nat) (eA : Nat) (mo : Int) (f : Nat → Option Nat) (LP : List Nat) (pv : Nat → Int32) (r1 : b1 ≤ 2 ^ (n - 1)) (r2 : qI ad d0 n a b1 mk k eA f LP pv), 2 ^ (n - 1) - b1 < NN → ∀ (H : Heap) (locs : List Loc), va_P D vwCl ([(q, .inr (3, [.int (zI (((mk : Nat) : Int))), .ref q10])), (q10, .inr (1, [.int (zI (mo)), .ref eA, .int (zI (((k : Nat) : Int)))]))] ++ TT t eA k f LP pv) H → va_D AA ([(q, .inr (3, [.int (zI (((mk : Nat) : Int))), .ref q10])), (q10, .inr (1, [.int (zI (mo)), .ref eA, .int (zI (((k : Nat) : Int)))]))] ++ TT t eA k f LP pv) → va_S AA s.heap H locs → ∀ (ls : Array Slot), lv_has ls 5 [(0, .ref q), (1, .int (zI (n))), (2, .int (zI (((2 ^ (n - 1) : Nat) : Int)))), (3, .int (zI (a))), (4, .int (zI (b1)))] → W p l e (headSpec wsX1_init ({ frames := 6, cells := 11, slots := 58, locals := 141 })).room s m ([.ref q, .int (zI (n))] : List Value).toArray below meth c H locs (1 + 2 * k) (3 + 11 * k) (MQ below (va_Qv (fun (u : Nat × Nat × Int × (Nat → Option Nat) × List Nat × (Nat → Int32)) => lsOK ad u.2.2.2.2.1 u.2.2.2.2.2 u.2.2.2.1 (aK n) ∧ ((aK n).length = 0 → u.2.1 = d0)) (fun (u : Nat × Nat × Int × (Nat → Option Nat) × List Nat × (Nat → Int32)) t1 => va_P D vwCl (([(q, .inr (3, [.int (zI ((((aA n).length : Nat) : Int))), .ref u.1])), (u.1, .inr (1, [.int (zI (u.2.2.1)), .ref u.2.1, .int (zI ((((aK n).length : Nat) : Int)))]))] ++ TT t (u.2.1) ((aK n).length) (u.2.2.2.1) (u.2.2.2.2.1) (u.2.2.2.2.2))) t1.heap ∧ va_K D vwCl (TY t) t1 ∧ va_D (AA) (([(q, .inr (3, [.int (zI ((((aA n).length : Nat) : Int))), .ref u.1])), (u.1, .inr (1, [.int (zI (u.2.2.1)), .ref u.2.1, .int (zI ((((aK n).length : Nat) : Int)))]))] ++ TT t (u.2.1) ((aK n).length) (u.2.2.2.1) (u.2.2.2.2.1) (u.2.2.2.2.2)))) (AA)) ([.ref q, .int (zI (n))] : List Value).toArray s 11 58 (AA)) (F0 m 36 ls []) := by
          intro NN
          induction NN with
          | zero =>
            intro b1 mk k eA mo f LP pv r1 r2 hmu
            exact absurd hmu (Nat.not_lt_zero _)
          | succ NN ih36 =>
            intro b1 mk k eA mo f LP pv r1 r2 hmu H locs hP hD hS ls hl
            have b8 := qI_bd gn r2 (by omega) (by omega)
            refine lv_iload hx hb dX1_init_36 (lv_at hl 4 rfl) ?_
            refine lv_iload_n hx hb dX1_init_38 rfl (lv_at hl 2 rfl) ?_
            refine z_icmp_ge (tgt := 78) hx hb dX1_init_39 (by decide) (by omega) (by omega) (fun c39 => ?_) (fun c39 => ?_)
            · refine lv_iinc (v := zI (((a + 1 : Nat) : Int))) (lv' := [(3, .int (zI (((a + 1 : Nat) : Int)))), (0, .ref q), (1, .int (zI (n))), (2, .int (zI (((2 ^ (n - 1) : Nat) : Int)))), (4, .int (zI (b1)))]) hx hb dX1_init_78 hl (k := 3) rfl (zI_incr (by omega)) (by decide) rfl (fun ls hl => ?_)
              refine lv_goto (tgt := 28) hx hb dX1_init_81 (by decide) ?_
              exact ih28 (a + 1) (mk) (k) (eA) (mo) (f) (LP) (pv) (by omega) (qI_e (by rw [show b1 = 2 ^ (n - 1) by omega] at r2; exact r2)) (by omega) _ _ hP hD hS _ (lv_sub hl [1, 2, 3, 0] rfl)
            · refine lv_iload_n hx hb dX1_init_42 rfl (lv_at hl 3 rfl) ?_
              refine n_i2l (a := a) hx hb (by omega) dX1_init_43 ?_
              refine lv_iload hx hb dX1_init_44 (lv_at hl 4 rfl) ?_
              refine n_i2l (a := b1) hx hb (by omega) dX1_init_46 ?_
              refine lv_iload_n hx hb dX1_init_47 rfl (lv_at hl 1 rfl) ?_
              refine vp_callSi (va_runS (As := [.long (lN (a)), .long (lN (b1)), .int (zI (n))]) (rest := []) ⟨hx, hb, hml, hown, hts⟩ (c_X3_firstLeftOpen l (a) b1 n (by omega) gn.1 (by omega) (by omega)) (va_cwS 3 hts gX1_init_X3_firstLeftOpen rfl rfl rfl (by decide +kernel) ⟨Nat.le_of_ble_eq_true rfl, Nat.le_of_ble_eq_true rfl⟩) ⟨fun a U g mk q => q, fun U hU hW => ⟨rfl, trivial⟩⟩ rfl rfl hl.1 rfl (lv_room (Nat.le_of_ble_eq_true rfl)) dX1_init_48 ⟨by show 1 + 2 * k + 0 ≤ 11; omega, by show 3 + 11 * k + 0 ≤ 58; omega⟩).run (fun r hr48 => ?_)
              obtain rfl := hr48
              have b6 := ff_le (fun k => oS n a k + oS n b1 k) (n - 1) 1
              refine z_if_ne (tgt := 72) hx hb dX1_init_51 (by decide) (by omega) (fun c51 => ?_) (fun c51 => ?_)
              · refine lv_iinc (v := zI (((b1 + 1 : Nat) : Int))) (lv' := [(4, .int (zI (((b1 + 1 : Nat) : Int)))), (0, .ref q), (1, .int (zI (n))), (2, .int (zI (((2 ^ (n - 1) : Nat) : Int)))), (3, .int (zI (a)))]) hx hb dX1_init_72 hl (k := 4) rfl (zI_incr (by omega)) (by decide) rfl (fun ls hl => ?_)
                refine lv_goto (tgt := 36) hx hb dX1_init_75 (by decide) ?_
                exact ih36 (b1 + 1) (mk) (k) (eA) (mo) (f) (LP) (pv) (by omega) (qI_n r2 (cb_0 (by omega))) (by omega) _ _ hP hD hS _ (lv_sub hl [1, 2, 3, 4, 0] rfl)
              · refine lv_aload_n hx hb dX1_init_54 rfl (lv_at hl 0 rfl) ?_
                refine lv_dup hx hb dX1_init_55 rfl ?_
                refine va_get (D := D) (ci := 3) (v := .int (zI (((mk : Nat) : Int)))) (C := RX1) (T := TX1) (N := 2) hx hb hts iX1 hown hK hP 0 rfl rfl 0 (by decide) (hts (.fieldLink RX1 7 "CancelRows$PairList" "many" "I") (by decide +kernel)) (fun _ h9 => h9) rfl dX1_init_56 ?_
                refine lv_iconst (v := zI 4) hx hb dX1_init_59 rfl ?_
                refine z_iadd hx hb dX1_init_60 ?_
                refine z_re (e2 := ((mk + 4 : Nat) : Int)) (by omega) ?_
                refine va_put (D := D) (ci := 3) (v := .int (zI (((mk + 4 : Nat) : Int)))) (ty := .int) (C := RX1) (T := TX1) (N := 2) hx hb hts iX1 tyX1 tyX1_ok nmX1 hown hK hP hD hS 0 rfl rfl 0 (by decide) (hts (.fieldLink RX1 7 "CancelRows$PairList" "many" "I") (by decide +kernel)) (fun _ h9 => h9) rfl (by decide +kernel) rfl rfl (Nat.le_of_ble_eq_true rfl) dX1_init_61 (fun H locs hP hD hS => ?_)
                have hP : va_P D vwCl ([(q, .inr (3, [.int (zI (((mk + 4 : Nat) : Int))), .ref q10])), (q10, .inr (1, [.int (zI (mo)), .ref eA, .int (zI (((k : Nat) : Int)))]))] ++ TT t eA k f LP pv) H := hP
                have hD : va_D AA ([(q, .inr (3, [.int (zI (((mk + 4 : Nat) : Int))), .ref q10])), (q10, .inr (1, [.int (zI (mo)), .ref eA, .int (zI (((k : Nat) : Int)))]))] ++ TT t eA k f LP pv) := hD
                refine lv_aload_n hx hb dX1_init_64 rfl (lv_at hl 0 rfl) ?_
                refine lv_iload_n hx hb dX1_init_65 rfl (lv_at hl 3 rfl) ?_
                refine lv_iload hx hb dX1_init_66 (lv_at hl 4 rfl) ?_
                refine lv_iload_n hx hb dX1_init_68 rfl (lv_at hl 1 rfl) ?_
                by_cases hls : lsKab n a b1 = true
                · have b7 := qI_by gn r2 (by omega) (by omega) (cb_1 (by omega)) (by omega) hls
                  have hPc := hP.part (X := [(q, .inr (3, [.int (zI (((mk + 4 : Nat) : Int))), .ref q10])), (q10, .inr (1, [.int (zI (mo)), .ref eA, .int (zI (((k : Nat) : Int)))]))]) (cx := [(q, .inr (3, [.int (zI (((mk + 4 : Nat) : Int))), .ref q10])), (q10, .inr (1, [.int (zI (mo)), .ref eA, .int (zI (((k : Nat) : Int)))]))]) (pl := TT t eA k f LP pv) [0, 1] rfl
                  have hDc := hD.part (X := [(q, .inr (3, [.int (zI (((mk + 4 : Nat) : Int))), .ref q10])), (q10, .inr (1, [.int (zI (mo)), .ref eA, .int (zI (((k : Nat) : Int)))]))]) (cx := [(q, .inr (3, [.int (zI (((mk + 4 : Nat) : Int))), .ref q10])), (q10, .inr (1, [.int (zI (mo)), .ref eA, .int (zI (((k : Nat) : Int)))]))]) (pl := TT t eA k f LP pv) [0, 1] (by decide) rfl
                  have hFc := va_freeP (X := [(q, .inr (3, [.int (zI (((mk + 4 : Nat) : Int))), .ref q10])), (q10, .inr (1, [.int (zI (mo)), .ref eA, .int (zI (((k : Nat) : Int)))]))]) (cx := [(q, .inr (3, [.int (zI (((mk + 4 : Nat) : Int))), .ref q10])), (q10, .inr (1, [.int (zI (mo)), .ref eA, .int (zI (((k : Nat) : Int)))]))]) (pl := TT t eA k f LP pv) hD hS hA [0, 1] rfl
                  refine va_callv (va_runV (As := [.int (zI (a)), .int (zI (b1)), .int (zI (n))]) (rest := []) ⟨hx, hb, hml, hown, hts⟩ (c_keep_y l D t H.size ad d0 tc q q10 eA k ((mk + 4 : Nat) : Int) mo f LP pv _ r2.2.2.1 r2.2.1 (by omega) r2.2.2.2 a b1 n gn (by omega) (by omega) hls) (cwV 3 hts gX1_init_X1_keepIfLeast rfl rfl rfl (by decide +kernel) ⟨Nat.le_of_ble_eq_true rfl, Nat.le_of_ble_eq_true rfl⟩) ⟨fun a U g mk q => by obtain ⟨q0, q1, qP, qK, qD, qS0⟩ := q; exact ⟨q0, q1, qP, va_K.moved (u := U) (U := U.calling g mk a) (Vm.Alike.refl U.vm) qK, qD, qS0.moved (u := U) (U := U.calling g mk a) (Vm.Alike.refl U.vm)⟩, va_recv hK hPc (ci := 3) (q0 := 0) rfl rfl, fun U hU hW => ⟨rfl, by rw [hU], by rw [hU]; exact hPc, va_K.moved hW.alike hK, hDc.weaken (fun _ _ _ _ => trivial), by rw [hU]; exact (((hJ.kept hS.2.1).narrow hFc)).moved hW.alike⟩⟩ rfl rfl hl.1 rfl (lv_room (Nat.le_of_ble_eq_true rfl)) dX1_init_69 ⟨by show 1 + 2 * k + 2 ≤ 11; omega, by show 3 + 11 * k + 11 ≤ 58; omega⟩) hS (fun q _ h => hFc q h) hFc (fun u tq H1 locs ht hvm hr69 hB hz1 hk1 hS => ?_)
                  obtain ⟨eA_69, f_69, LP_69, pv_69⟩ := u
                  obtain ⟨hP1, hK1, hD1⟩ := hB
                  rw [ht] at hP1
                  obtain ⟨hP, hD⟩ := va_joinP (X := [(q, .inr (3, [.int (zI (((mk + 4 : Nat) : Int))), .ref q10])), (q10, .inr (1, [.int (zI (mo)), .ref eA, .int (zI (((k : Nat) : Int)))]))]) (cx := [(q, .inr (3, [.int (zI (((mk + 4 : Nat) : Int))), .ref q10])), (q10, .inr (1, [.int (zI (mo)), .ref eA, .int (zI (((k : Nat) : Int)))]))]) (pl := TT t eA k f LP pv) (wr := []) (rx := [(q, .inr (3, [.int (zI ((((mk + 4 : Nat) : Int)))), .ref q10])), (q10, .inr (1, [.int (zI (mo + 1)), .ref eA_69, .int (zI (((k + 1 : Nat) : Int)))]))]) (pl1 := TT t (eA_69) (k + 1) (f_69) (LP_69) (pv_69)) hP hD [0, 1] [] rfl rfl (by decide) (by decide) hk1 hFc hP1 hD1
                  generalize H1 = H at hP hS ⊢
                  have hP : va_P D vwCl ([(q, .inr (3, [.int (zI ((((mk + 4 : Nat) : Int)))), .ref q10])), (q10, .inr (1, [.int (zI (mo + 1)), .ref eA_69, .int (zI (((k + 1 : Nat) : Int)))]))] ++ TT t (eA_69) (k + 1) (f_69) (LP_69) (pv_69)) H := hP
                  have hD : va_D AA ([(q, .inr (3, [.int (zI ((((mk + 4 : Nat) : Int)))), .ref q10])), (q10, .inr (1, [.int (zI (mo + 1)), .ref eA_69, .int (zI (((k + 1 : Nat) : Int)))]))] ++ TT t (eA_69) (k + 1) (f_69) (LP_69) (pv_69)) := hD
                  try dsimp only at hr69
                  refine lv_iinc (v := zI (((b1 + 1 : Nat) : Int))) (lv' := [(4, .int (zI (((b1 + 1 : Nat) : Int)))), (0, .ref q), (1, .int (zI (n))), (2, .int (zI (((2 ^ (n - 1) : Nat) : Int)))), (3, .int (zI (a)))]) hx hb dX1_init_72 hl (k := 4) rfl (zI_incr (by omega)) (by decide) rfl (fun ls hl => ?_)
                  refine lv_goto (tgt := 36) hx hb dX1_init_75 (by decide) ?_
                  refine W.widen (k := 1 + 2 * (k + 1)) (n := 3 + 11 * (k + 1)) (by omega) (by omega) ?_
                  exact ih36 (b1 + 1) (mk + 4) (k + 1) (eA_69) (mo + 1) (f_69) (LP_69) (pv_69) (by omega) (qI_1 r2 (cb_1 (by omega)) (by omega) hls hr69) (by omega) _ _ hP hD hS _ (lv_sub hl [1, 2, 3, 4, 0] rfl)
                · skip
                  have hPc := hP.sub (ws' := []) [] rfl
                  refine va_csv (va_runV (As := [.int (zI (a)), .int (zI (b1)), .int (zI (n))]) (rest := []) ⟨hx, hb, hml, hown, hts⟩ (c_keep_n l D t q a b1 n gn (by omega) (by omega) hls) (cwV 3 hts gX1_init_X1_keepIfLeast rfl rfl rfl (by decide +kernel) ⟨Nat.le_of_ble_eq_true rfl, Nat.le_of_ble_eq_true rfl⟩) ⟨fun a U g mk q => ⟨q.1, q.2.1, va_K.moved (u := U) (U := U.calling g mk a) (Vm.Alike.refl U.vm) q.2.2⟩, va_recv hK hP (ci := 3) (q0 := 0) rfl rfl, fun U hU hW => ⟨rfl, by rw [hU]; exact hPc, va_K.moved hW.alike hK⟩⟩ rfl rfl hl.1 rfl (lv_room (Nat.le_of_ble_eq_true rfl)) dX1_init_69 ⟨by show 1 + 2 * k + 0 ≤ 11; omega, by show 3 + 11 * k + 0 ≤ 58; omega⟩).run (fun hr69 => ?_)
                  refine lv_iinc (v := zI (((b1 + 1 : Nat) : Int))) (lv' := [(4, .int (zI (((b1 + 1 : Nat) : Int)))), (0, .ref q), (1, .int (zI (n))), (2, .int (zI (((2 ^ (n - 1) : Nat) : Int)))), (3, .int (zI (a)))]) hx hb dX1_init_72 hl (k := 4) rfl (zI_incr (by omega)) (by decide) rfl (fun ls hl => ?_)
                  refine lv_goto (tgt := 36) hx hb dX1_init_75 (by decide) ?_
                  exact ih36 (b1 + 1) (mk + 4) (k) (eA) (mo) (f) (LP) (pv) (by omega) (qI_0 r2 (cb_1 (by omega)) (by omega) hls) (by omega) _ _ hP hD hS _ (lv_sub hl [1, 2, 3, 4, 0] rfl)
        exact lp36 _ (0) (mk) (k) (eA) (mo) (f) (LP) (pv) (by omega) (q2) (Nat.lt_succ_self _) _ _ hP hD hS _ (lv_sub hl [1, 2, 3, 4, 0] rfl)
  exact lp28 _ (0) (0) (0) (d0) (0) (fun _ => none) ([]) (fun _ => 0) (by omega) (qI_z ad d0 n (fun _ => none) [] (fun _ => 0)) (Nat.lt_succ_self _) _ _ hP hD hS _ (lv_sub hl [2, 3, 1, 0] rfl)
