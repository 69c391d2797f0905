/-! best -/
def brw (C : Nat → Int) (p0 : Nat) (z : BT) : Nat → Int := fun j => if j = p0 then z.1 else if j = p0 + 1 then z.2.1 else if j = p0 + 2 then z.2.2.1 else if j = p0 + 3 then z.2.2.2 else C j
theorem brw_at (C : Nat → Int) (p0 : Nat) (z : BT) : brw C p0 z p0 = z.1 ∧ brw C p0 z (p0 + 1) = z.2.1 ∧ brw C p0 z (p0 + 2) = z.2.2.1 ∧ brw C p0 z (p0 + 3) = z.2.2.2 := by
  unfold brw
  refine ⟨?_, ?_, ?_, ?_⟩ <;> (repeat' split) <;> first | rfl | omega
theorem brw_new (C : Nat → Int) (p0 : Nat) (v : Int) (l m k : Nat) (e1 e2 : Int) : va_up (va_up (va_up (va_up (va_up (va_up C p0 v) (p0 + 1) (l : Int)) (p0 + 2) e1) (p0 + 3) e2) (p0 + 2) (m : Int)) (p0 + 3) (k : Int) = brw C p0 (v, l, m, k) := by
  funext j
  simp only [va_up, brw]
  (repeat' split) <;> first | rfl | omega
theorem brw_upd (C : Nat → Int) (p0 : Nat) (v : Int) (l m k m' k' : Nat) : va_up (va_up (brw C p0 (v, l, m, k)) (p0 + 2) (m' : Int)) (p0 + 3) (k' : Int) = brw C p0 (v, l, m', k') := by
  funext j
  simp only [va_up, brw]
  (repeat' split) <;> first | rfl | omega
theorem brw_over (C : Nat → Int) (p0 : Nat) (z z' : BT) : brw (brw C p0 z) p0 z' = brw C p0 z' := by
  funext j
  simp only [brw]
  (repeat' split) <;> first | rfl | omega
theorem brw_if {C C0 : Nat → Int} {p0 xx : Nat} {z : BT} (h : C = if xx = 0 then C0 else brw C0 p0 z) (z' : BT) : brw C p0 z' = brw C0 p0 z' := by
  rw [h]
  split
  · rfl
  · exact brw_over _ _ _ _
def bOK (Fo Be : Nat → Int) : Prop := ∀ n w : Nat, 1 ≤ n → n ≤ 14 → w ≤ 1 → Fo (2 * n + w) = 0 ∨ (Fo (2 * n + w) = 1 ∧ ∀ what : Int, 0 ≤ what → what ≤ 3 → Be (4 * (2 * n + w) + what.toNat) = bw (bv n (w : Int)) what)
theorem brw_bw (C : Nat → Int) (p0 : Nat) (z : BT) (what : Int) (h0 : 0 ≤ what) (h3 : what ≤ 3) : brw C p0 z (p0 + what.toNat) = bw z what := by
  have h := brw_at C p0 z
  rcases (show what = 0 ∨ what = 1 ∨ what = 2 ∨ what = 3 by omega) with r | r | r | r <;> subst r
  · exact h.1
  · exact h.2.1
  · exact h.2.2.1
  · exact h.2.2.2
theorem bOK_up {Fo Be : Nat → Int} (h : bOK Fo Be) (n w : Nat) (hw : w ≤ 1) : bOK (va_up Fo (2 * n + w) 1) (brw Be (4 * (2 * n + w)) (bv n (w : Int))) := by
  intro n' w' a b c
  by_cases e : 2 * n' + w' = 2 * n + w
  · have e1 : n' = n := by omega
    have e2 : w' = w := by omega
    subst e1; subst e2
    exact Or.inr ⟨if_pos rfl, fun what h0 h3 => brw_bw _ _ _ what h0 h3⟩
  · have z := h n' w' a b c
    have e1 : va_up Fo (2 * n + w) 1 (2 * n' + w') = Fo (2 * n' + w') := if_neg e
    rw [e1]
    refine z.imp_right (fun q => ⟨q.1, fun what h0 h3 => ?_⟩)
    rw [← q.2 what h0 h3]
    unfold brw
    rw [if_neg (by omega), if_neg (by omega), if_neg (by omega), if_neg (by omega)]
-- best, refused
set_option maxHeartbeats 4000000 in
set_option maxRecDepth 100000 in
theorem c_X6_best_bad (l : Launch) (x : Nat) (n way what : Int) (gn : -2147483648 ≤ n ∧ n < 2147483648) (gway : -2147483648 ≤ way ∧ way < 2147483648) (gwhat : -2147483648 ≤ what ∧ what < 2147483648) (hb0 : ¬ (1 ≤ n ∧ n ≤ 14 ∧ 0 ≤ way ∧ way ≤ 1 ∧ 0 ≤ what ∧ what ≤ 3)) : Met l yX6_best wsX6_best ({ frames := 1, cells := 0, slots := 0, locals := 22 }) (va_Pc [.ref x, .int (zI (n)), .int (zI (way)), .int (zI (what))] (fun _ => True)) (vp_Si (fun r => r = zI (-1))) 0 0 (fun _ => False) := by
  refine Met.ofW (cc := cX6_best) (maxL := 4) (ret := (some .int)) (by decide) rfl ?_
  intro p e s m args below meth c s₁ B hml hv
  obtain ⟨rfl, -⟩ := hv
  have hx := B.exec
  have hb := B.bytes
  have hr := B.returns
  have hts := atoms_spec (ws := wsX6_best) B.pre
  have hown : s.vm.findClass RX6 = some m.cls := findClass_of_methodNamed B.named
  have hlocks := B.notSynchronized
  have hl := lv_entry ([.ref x, .int (zI (n)), .int (zI (way)), .int (zI (what))]) (n := 4) (Nat.le_of_ble_eq_true rfl)
  rw [lg_entry_eq]
  generalize (lg_sl ([.ref x, .int (zI (n)), .int (zI (way)), .int (zI (what))]) ++ List.replicate (4 - (lg_sl ([.ref x, .int (zI (n)), .int (zI (way)), .int (zI (what))])).length) Slot.unset).toArray = ls at hl ⊢
  have hl : lv_has ls 4 [(0, .ref x), (1, .int (zI (n))), (2, .int (zI (way))), (3, .int (zI (what)))] := hl
  refine lv_iload_n hx hb dX6_best_0 rfl (lv_at hl 1 rfl) ?_
  refine lv_iconst (v := zI 1) hx hb dX6_best_1 rfl ?_
  refine lv_bipush (v := zI 14) hx hb dX6_best_2 (by decide +kernel) ?_
  refine vp_callSi (va_runS (As := [.int (zI (n)), .int (zI (1)), .int (zI (14))]) (rest := []) ⟨hx, hb, hml, hown, hts⟩ (c_X6_within l n 1 14 gn (by omega) (by omega)) (va_cwS 3 hts gX6_best_X6_within rfl rfl rfl (by decide +kernel) ⟨Nat.le_of_ble_eq_true rfl, Nat.le_of_ble_eq_true rfl⟩) ⟨fun a U g mk q => q, fun U hU hW => ⟨rfl, trivial⟩⟩ rfl rfl hl.1 rfl (lv_room (Nat.le_of_ble_eq_true rfl)) dX6_best_4 ⟨Nat.le_of_ble_eq_true rfl, Nat.le_of_ble_eq_true rfl⟩).run (fun r hr4 => ?_)
  obtain rfl := hr4
  refine z_ifb_eq (P := (1) ≤ (n) ∧ (n) ≤ (14)) (tgt := 19) hx hb dX6_best_7 (by decide) (fun c7 => ?_) (fun c7 => ?_)
  · refine lv_iconst (v := zI (-1)) hx hb dX6_best_19 rfl ?_
    exact W.iret (v := (zI ((-1)))) hx hb hr (fun tq ht hW => ⟨_, rfl, rfl, ht⟩) (fun q h => by cases h) dX6_best_20
  · refine lv_iload_n hx hb dX6_best_10 rfl (lv_at hl 2 rfl) ?_
    refine lv_iconst (v := zI 0) hx hb dX6_best_11 rfl ?_
    refine lv_iconst (v := zI 1) hx hb dX6_best_12 rfl ?_
    refine vp_callSi (va_runS (As := [.int (zI (way)), .int (zI (0)), .int (zI (1))]) (rest := []) ⟨hx, hb, hml, hown, hts⟩ (c_X6_within l way 0 1 gway (by omega) (by omega)) (va_cwS 3 hts gX6_best_X6_within rfl rfl rfl (by decide +kernel) ⟨Nat.le_of_ble_eq_true rfl, Nat.le_of_ble_eq_true rfl⟩) ⟨fun a U g mk q => q, fun U hU hW => ⟨rfl, trivial⟩⟩ rfl rfl hl.1 rfl (lv_room (Nat.le_of_ble_eq_true rfl)) dX6_best_13 ⟨Nat.le_of_ble_eq_true rfl, Nat.le_of_ble_eq_true rfl⟩).run (fun r hr13 => ?_)
    obtain rfl := hr13
    refine z_ifb_ne (P := (0) ≤ (way) ∧ (way) ≤ (1)) (tgt := 21) hx hb dX6_best_16 (by decide) (fun c16 => ?_) (fun c16 => ?_)
    · refine lv_iload_n hx hb dX6_best_21 rfl (lv_at hl 3 rfl) ?_
      rcases (show (what) = 0 ∨ (what) = 1 ∨ (what) = 2 ∨ (what) = 3 ∨ ((what) < 0 ∨ 3 < (what)) by omega) with hw22 | hw22 | hw22 | hw22 | hw22
      · refine z_tableIn (off := 30) (tgt := 52) hx hb 0 dX6_best_22 (by omega) (by omega) (by omega) rfl (by decide) ?_
        omega
      · refine z_tableIn (off := 40) (tgt := 62) hx hb 1 dX6_best_22 (by omega) (by omega) (by omega) rfl (by decide) ?_
        omega
      · refine z_tableIn (off := 50) (tgt := 72) hx hb 2 dX6_best_22 (by omega) (by omega) (by omega) rfl (by decide) ?_
        omega
      · refine z_tableIn (off := 60) (tgt := 82) hx hb 3 dX6_best_22 (by omega) (by omega) (by omega) rfl (by decide) ?_
        omega
      · refine z_tableOut (tgt := 92) hx hb dX6_best_22 (by omega) (by omega) (by decide) ?_
        refine lv_iconst (v := zI (-1)) hx hb dX6_best_92 rfl ?_
        exact W.iret (v := (zI ((-1)))) hx hb hr (fun tq ht hW => ⟨_, rfl, rfl, ht⟩) (fun q h => by cases h) dX6_best_93
    · refine lv_iconst (v := zI (-1)) hx hb dX6_best_19 rfl ?_
      exact W.iret (v := (zI ((-1)))) hx hb hr (fun tq ht hW => ⟨_, rfl, rfl, ht⟩) (fun q h => by cases h) dX6_best_20

-- best, way 0, known
set_option maxHeartbeats 4000000 in
set_option maxRecDepth 100000 in
theorem c_X6_best_0s (l : Launch) (D : va_G) (t : Nat → ClassId) (x : Nat) (a : Nat → Nat) (R : Nat) (pa : Nat → Option Nat) (q : Nat) (n : Nat) (gn : 1 ≤ n ∧ n ≤ 14) (what : Int) (gwh : 0 ≤ what ∧ what ≤ 3) (hs : pa n = some q) : Met l yX6_best wsX6_best ({ frames := 1, cells := 0, slots := 0, locals := 23 }) (va_Pc [.ref x, .int (zI (n)), .int (zI (0)), .int (zI (what))] (fun U => va_P D vwCl ([oX x a (((R : Nat) : Int)), aQ t 5 (a 4) 15 (pa), (q, .inr (2, [.int (zI ((bv n 0).1)), .int (zI ((((bv n 0).2.1 : Nat) : Int))), .int (zI ((((bv n 0).2.2.1 : Nat) : Int))), .int (zI ((((bv n 0).2.2.2 : Nat) : Int)))]))]) U.heap ∧ va_K D vwCl (TY t) U)) (vp_Si (fun r => r = zI (bw (bv n 0) what))) 0 0 (fun _ => False) := by
  refine Met.ofW (cc := cX6_best) (maxL := 4) (ret := (some .int)) (by decide) rfl ?_
  intro p e s m args below meth c s₁ B hml hv
  obtain ⟨rfl, hP, hK⟩ := hv
  have hx := B.exec
  have hb := B.bytes
  have hr := B.returns
  have hts := atoms_spec (ws := wsX6_best) B.pre
  have hown : s.vm.findClass RX6 = some m.cls := findClass_of_methodNamed B.named
  have hlocks := B.notSynchronized
  have hl := lv_entry ([.ref x, .int (zI (n)), .int (zI (0)), .int (zI (what))]) (n := 4) (Nat.le_of_ble_eq_true rfl)
  rw [lg_entry_eq]
  generalize (lg_sl ([.ref x, .int (zI (n)), .int (zI (0)), .int (zI (what))]) ++ List.replicate (4 - (lg_sl ([.ref x, .int (zI (n)), .int (zI (0)), .int (zI (what))])).length) Slot.unset).toArray = ls at hl ⊢
  have hl : lv_has ls 4 [(0, .ref x), (1, .int (zI (n))), (2, .int (zI (0))), (3, .int (zI (what)))] := hl
  have iX0 : ∀ w ∈ u_ws RX0 TX0 4, w ∈ wsX6_best := by decide +kernel
  refine lv_iload_n hx hb dX6_best_0 rfl (lv_at hl 1 rfl) ?_
  refine lv_iconst (v := zI 1) hx hb dX6_best_1 rfl ?_
  refine lv_bipush (v := zI 14) hx hb dX6_best_2 (by decide +kernel) ?_
  refine vp_callSi (va_runS (As := [.int (zI (n)), .int (zI (1)), .int (zI (14))]) (rest := []) ⟨hx, hb, hml, hown, hts⟩ (c_X6_within l (n : Int) 1 14 (by omega) (by omega) (by omega)) (va_cwS 3 hts gX6_best_X6_within rfl rfl rfl (by decide +kernel) ⟨Nat.le_of_ble_eq_true rfl, Nat.le_of_ble_eq_true rfl⟩) ⟨fun a U g mk q => q, fun U hU hW => ⟨rfl, trivial⟩⟩ rfl rfl hl.1 rfl (lv_room (Nat.le_of_ble_eq_true rfl)) dX6_best_4 ⟨Nat.le_of_ble_eq_true rfl, Nat.le_of_ble_eq_true rfl⟩).run (fun r hr4 => ?_)
  obtain rfl := hr4
  refine z_ifb_eq (P := (1 : Int) ≤ (n : Int) ∧ (n : Int) ≤ 14) (tgt := 19) hx hb dX6_best_7 (by decide) (fun c7 => ?_) (fun c7 => ?_)
  · exact absurd (show (1 : Int) ≤ (n : Int) ∧ (n : Int) ≤ 14 by omega) c7
  · refine lv_iload_n hx hb dX6_best_10 rfl (lv_at hl 2 rfl) ?_
    refine lv_iconst (v := zI 0) hx hb dX6_best_11 rfl ?_
    refine lv_iconst (v := zI 1) hx hb dX6_best_12 rfl ?_
    refine vp_callSi (va_runS (As := [.int (zI (0)), .int (zI (0)), .int (zI (1))]) (rest := []) ⟨hx, hb, hml, hown, hts⟩ (c_X6_within l 0 0 1 (by decide) (by omega) (by omega)) (va_cwS 3 hts gX6_best_X6_within rfl rfl rfl (by decide +kernel) ⟨Nat.le_of_ble_eq_true rfl, Nat.le_of_ble_eq_true rfl⟩) ⟨fun a U g mk q => q, fun U hU hW => ⟨rfl, trivial⟩⟩ rfl rfl hl.1 rfl (lv_room (Nat.le_of_ble_eq_true rfl)) dX6_best_13 ⟨Nat.le_of_ble_eq_true rfl, Nat.le_of_ble_eq_true rfl⟩).run (fun r hr13 => ?_)
    obtain rfl := hr13
    refine z_ifb_ne (P := (0) ≤ (0) ∧ (0) ≤ (1)) (tgt := 21) hx hb dX6_best_16 (by decide) (fun c16 => ?_) (fun c16 => ?_)
    · refine lv_iload_n hx hb dX6_best_21 rfl (lv_at hl 3 rfl) ?_
      rcases (show (what) = 0 ∨ (what) = 1 ∨ (what) = 2 ∨ (what) = 3 ∨ ((what) < 0 ∨ 3 < (what)) by omega) with hw22 | hw22 | hw22 | hw22 | hw22
      · refine z_tableIn (off := 30) (tgt := 52) hx hb 0 dX6_best_22 (by omega) (by omega) (by omega) rfl (by decide) ?_
        refine lv_aload_n hx hb dX6_best_52 rfl (lv_at hl 0 rfl) ?_
        refine lv_iload_n hx hb dX6_best_53 rfl (lv_at hl 1 rfl) ?_
        refine lv_iload_n hx hb dX6_best_54 rfl (lv_at hl 2 rfl) ?_
        have hPc := hP.sub (ws' := [oX x a (((R : Nat) : Int)), aQ t 5 (a 4) 15 (pa)]) [0, 1] rfl
        refine va_csq (va_runV (As := [.int (zI (n)), .int (zI (0))]) (rest := []) ⟨hx, hb, hml, hown, hts⟩ (c_X6_bestRowsOf_0s l D t x a R pa q n gn hs) (cwV 2 hts gX6_best_X6_bestRowsOf rfl rfl rfl (by decide +kernel) ⟨Nat.le_of_ble_eq_true rfl, Nat.le_of_ble_eq_true rfl⟩) ⟨fun a U g mk q => ⟨q.1, q.2.1, va_K.moved (u := U) (U := U.calling g mk a) (Vm.Alike.refl U.vm) q.2.2⟩, va_recv hK hPc (ci := 5) (q0 := 0) rfl rfl, fun U hU hW => ⟨rfl, by rw [hU]; exact hPc, va_K.moved hW.alike hK⟩⟩ rfl rfl hl.1 rfl (lv_room (Nat.le_of_ble_eq_true rfl)) dX6_best_55 ⟨Nat.le_of_ble_eq_true rfl, Nat.le_of_ble_eq_true rfl⟩).run (fun r hr55 => ?_)
        obtain rfl := hr55
        refine va_get (D := D) (ci := 2) (v := .int (zI ((bv n 0).1))) (C := RX0) (T := TX0) (N := 4) hx hb hts iX0 hown hK hP 2 rfl rfl 0 (by decide) (hts (.fieldLink RX6 183 "CancelRows$BestRows" "value" "I") (by decide +kernel)) (fun _ h9 => h9) rfl dX6_best_58 ?_
        exact W.iret (v := (zI ((bv n 0).1))) hx hb hr (fun tq ht hW => ⟨_, rfl, by rw [hw22]; rfl, ht⟩) (fun q h => by cases h) dX6_best_61
      · refine z_tableIn (off := 40) (tgt := 62) hx hb 1 dX6_best_22 (by omega) (by omega) (by omega) rfl (by decide) ?_
        refine lv_aload_n hx hb dX6_best_62 rfl (lv_at hl 0 rfl) ?_
        refine lv_iload_n hx hb dX6_best_63 rfl (lv_at hl 1 rfl) ?_
        refine lv_iload_n hx hb dX6_best_64 rfl (lv_at hl 2 rfl) ?_
        have hPc := hP.sub (ws' := [oX x a (((R : Nat) : Int)), aQ t 5 (a 4) 15 (pa)]) [0, 1] rfl
        refine va_csq (va_runV (As := [.int (zI (n)), .int (zI (0))]) (rest := []) ⟨hx, hb, hml, hown, hts⟩ (c_X6_bestRowsOf_0s l D t x a R pa q n gn hs) (cwV 2 hts gX6_best_X6_bestRowsOf rfl rfl rfl (by decide +kernel) ⟨Nat.le_of_ble_eq_true rfl, Nat.le_of_ble_eq_true rfl⟩) ⟨fun a U g mk q => ⟨q.1, q.2.1, va_K.moved (u := U) (U := U.calling g mk a) (Vm.Alike.refl U.vm) q.2.2⟩, va_recv hK hPc (ci := 5) (q0 := 0) rfl rfl, fun U hU hW => ⟨rfl, by rw [hU]; exact hPc, va_K.moved hW.alike hK⟩⟩ rfl rfl hl.1 rfl (lv_room (Nat.le_of_ble_eq_true rfl)) dX6_best_65 ⟨Nat.le_of_ble_eq_true rfl, Nat.le_of_ble_eq_true rfl⟩).run (fun r hr65 => ?_)
        obtain rfl := hr65
        refine va_get (D := D) (ci := 2) (v := .int (zI ((((bv n 0).2.1 : Nat) : Int)))) (C := RX0) (T := TX0) (N := 4) hx hb hts iX0 hown hK hP 2 rfl rfl 1 (by decide) (hts (.fieldLink RX6 186 "CancelRows$BestRows" "leastNumber" "I") (by decide +kernel)) (fun _ h9 => h9) rfl dX6_best_68 ?_
        exact W.iret (v := (zI ((((bv n 0).2.1 : Nat) : Int)))) hx hb hr (fun tq ht hW => ⟨_, rfl, by rw [hw22]; rfl, ht⟩) (fun q h => by cases h) dX6_best_71
      · refine z_tableIn (off := 50) (tgt := 72) hx hb 2 dX6_best_22 (by omega) (by omega) (by omega) rfl (by decide) ?_
        refine lv_aload_n hx hb dX6_best_72 rfl (lv_at hl 0 rfl) ?_
        refine lv_iload_n hx hb dX6_best_73 rfl (lv_at hl 1 rfl) ?_
        refine lv_iload_n hx hb dX6_best_74 rfl (lv_at hl 2 rfl) ?_
        have hPc := hP.sub (ws' := [oX x a (((R : Nat) : Int)), aQ t 5 (a 4) 15 (pa)]) [0, 1] rfl
        refine va_csq (va_runV (As := [.int (zI (n)), .int (zI (0))]) (rest := []) ⟨hx, hb, hml, hown, hts⟩ (c_X6_bestRowsOf_0s l D t x a R pa q n gn hs) (cwV 2 hts gX6_best_X6_bestRowsOf rfl rfl rfl (by decide +kernel) ⟨Nat.le_of_ble_eq_true rfl, Nat.le_of_ble_eq_true rfl⟩) ⟨fun a U g mk q => ⟨q.1, q.2.1, va_K.moved (u := U) (U := U.calling g mk a) (Vm.Alike.refl U.vm) q.2.2⟩, va_recv hK hPc (ci := 5) (q0 := 0) rfl rfl, fun U hU hW => ⟨rfl, by rw [hU]; exact hPc, va_K.moved hW.alike hK⟩⟩ rfl rfl hl.1 rfl (lv_room (Nat.le_of_ble_eq_true rfl)) dX6_best_75 ⟨Nat.le_of_ble_eq_true rfl, Nat.le_of_ble_eq_true rfl⟩).run (fun r hr75 => ?_)
        obtain rfl := hr75
        refine va_get (D := D) (ci := 2) (v := .int (zI ((((bv n 0).2.2.1 : Nat) : Int)))) (C := RX0) (T := TX0) (N := 4) hx hb hts iX0 hown hK hP 2 rfl rfl 2 (by decide) (hts (.fieldLink RX6 189 "CancelRows$BestRows" "many" "I") (by decide +kernel)) (fun _ h9 => h9) rfl dX6_best_78 ?_
        exact W.iret (v := (zI ((((bv n 0).2.2.1 : Nat) : Int)))) hx hb hr (fun tq ht hW => ⟨_, rfl, by rw [hw22]; rfl, ht⟩) (fun q h => by cases h) dX6_best_81
      · refine z_tableIn (off := 60) (tgt := 82) hx hb 3 dX6_best_22 (by omega) (by omega) (by omega) rfl (by decide) ?_
        refine lv_aload_n hx hb dX6_best_82 rfl (lv_at hl 0 rfl) ?_
        refine lv_iload_n hx hb dX6_best_83 rfl (lv_at hl 1 rfl) ?_
        refine lv_iload_n hx hb dX6_best_84 rfl (lv_at hl 2 rfl) ?_
        have hPc := hP.sub (ws' := [oX x a (((R : Nat) : Int)), aQ t 5 (a 4) 15 (pa)]) [0, 1] rfl
        refine va_csq (va_runV (As := [.int (zI (n)), .int (zI (0))]) (rest := []) ⟨hx, hb, hml, hown, hts⟩ (c_X6_bestRowsOf_0s l D t x a R pa q n gn hs) (cwV 2 hts gX6_best_X6_bestRowsOf rfl rfl rfl (by decide +kernel) ⟨Nat.le_of_ble_eq_true rfl, Nat.le_of_ble_eq_true rfl⟩) ⟨fun a U g mk q => ⟨q.1, q.2.1, va_K.moved (u := U) (U := U.calling g mk a) (Vm.Alike.refl U.vm) q.2.2⟩, va_recv hK hPc (ci := 5) (q0 := 0) rfl rfl, fun U hU hW => ⟨rfl, by rw [hU]; exact hPc, va_K.moved hW.alike hK⟩⟩ rfl rfl hl.1 rfl (lv_room (Nat.le_of_ble_eq_true rfl)) dX6_best_85 ⟨Nat.le_of_ble_eq_true rfl, Nat.le_of_ble_eq_true rfl⟩).run (fun r hr85 => ?_)
        obtain rfl := hr85
        refine va_get (D := D) (ci := 2) (v := .int (zI ((((bv n 0).2.2.2 : Nat) : Int)))) (C := RX0) (T := TX0) (N := 4) hx hb hts iX0 hown hK hP 2 rfl rfl 3 (by decide) (hts (.fieldLink RX6 190 "CancelRows$BestRows" "kinds" "I") (by decide +kernel)) (fun _ h9 => h9) rfl dX6_best_88 ?_
        exact W.iret (v := (zI ((((bv n 0).2.2.2 : Nat) : Int)))) hx hb hr (fun tq ht hW => ⟨_, rfl, by rw [hw22]; rfl, ht⟩) (fun q h => by cases h) dX6_best_91
      · refine z_tableOut (tgt := 92) hx hb dX6_best_22 (by omega) (by omega) (by decide) ?_
        omega
    · exact absurd (by decide) c16

-- best, way 0, new
set_option maxHeartbeats 4000000 in
set_option maxRecDepth 100000 in
theorem c_X6_best_0n (l : Launch) (D : va_G) (t : Nat → ClassId) (sz : Nat) (x : Nat) (a : Nat → Nat) (R : Nat) (pa : Nat → Option Nat) (n : Nat) (gn : 1 ≤ n ∧ n ≤ 14) (what : Int) (gwh : 0 ≤ what ∧ what ≤ 3) (hs : pa n = none) : Met l yX6_best wsX6_best ({ frames := 6, cells := 1, slots := 4, locals := 141 }) (va_Pc [.ref x, .int (zI (n)), .int (zI (0)), .int (zI (what))] (fun U => U.heap.size = sz ∧ va_P D vwCl ([oX x a (((R : Nat) : Int)), aQ t 5 (a 4) 15 (pa)]) U.heap ∧ va_K D vwCl (TY t) U ∧ va_D (fun _ => True) ([oX x a (((R : Nat) : Int)), aQ t 5 (a 4) 15 (pa)]))) (va_Qi (fun r (u : Nat) => r = zI (bw (bv n 0) what)) (fun (u : Nat) t1 => va_P D vwCl ([oX x a (((R : Nat) : Int)), aQ t 5 (a 4) 15 (va_up pa n (some (u))), (u, .inr (2, [.int (zI ((bv n 0).1)), .int (zI ((((bv n 0).2.1 : Nat) : Int))), .int (zI ((((bv n 0).2.2.1 : Nat) : Int))), .int (zI ((((bv n 0).2.2.2 : Nat) : Int)))]))]) t1.heap ∧ va_K D vwCl (TY t) t1 ∧ va_D (va_A ([oX x a (((R : Nat) : Int)), aQ t 5 (a 4) 15 (pa)]) sz) ([oX x a (((R : Nat) : Int)), aQ t 5 (a 4) 15 (va_up pa n (some (u))), (u, .inr (2, [.int (zI ((bv n 0).1)), .int (zI ((((bv n 0).2.1 : Nat) : Int))), .int (zI ((((bv n 0).2.2.1 : Nat) : Int))), .int (zI ((((bv n 0).2.2.2 : Nat) : Int)))]))])) (va_A ([oX x a (((R : Nat) : Int)), aQ t 5 (a 4) 15 (pa)]) sz)) 1 4 (va_A ([oX x a (((R : Nat) : Int)), aQ t 5 (a 4) 15 (pa)]) sz) := by
  refine Met.ofW (cc := cX6_best) (maxL := 4) (ret := (some .int)) (by decide) rfl ?_
  intro p e s m args below meth c s₁ B hml hv
  obtain ⟨rfl, hsz, hP, hK, hD0⟩ := hv
  have hx := B.exec
  have hb := B.bytes
  have hr := B.returns
  have hts := atoms_spec (ws := wsX6_best) B.pre
  have hown : s.vm.findClass RX6 = some m.cls := findClass_of_methodNamed B.named
  have hlocks := B.notSynchronized
  subst hsz
  have hD := hD0.self (sz := s.heap.size)
  generalize hAe : va_A ([oX x a (((R : Nat) : Int)), aQ t 5 (a 4) 15 (pa)]) s.heap.size = AA at hD ⊢
  have hA : ∀ q : Nat, s.heap.size ≤ q → AA q := fun q h => by rw [← hAe]; exact Or.inr h
  have hS : va_S AA s.heap s.heap [] := va_S.rf
  have hP : va_P D vwCl ([oX x a (((R : Nat) : Int)), aQ t 5 (a 4) 15 (pa)]) s.heap := hP
  have hl := lv_entry ([.ref x, .int (zI (n)), .int (zI (0)), .int (zI (what))]) (n := 4) (Nat.le_of_ble_eq_true rfl)
  rw [lg_entry_eq]
  generalize (lg_sl ([.ref x, .int (zI (n)), .int (zI (0)), .int (zI (what))]) ++ List.replicate (4 - (lg_sl ([.ref x, .int (zI (n)), .int (zI (0)), .int (zI (what))])).length) Slot.unset).toArray = ls at hl ⊢
  have hl : lv_has ls 4 [(0, .ref x), (1, .int (zI (n))), (2, .int (zI (0))), (3, .int (zI (what)))] := hl
  have iX0 : ∀ w ∈ u_ws RX0 TX0 4, w ∈ wsX6_best := by decide +kernel
  refine lv_iload_n hx hb dX6_best_0 rfl (lv_at hl 1 rfl) ?_
  refine lv_iconst (v := zI 1) hx hb dX6_best_1 rfl ?_
  refine lv_bipush (v := zI 14) hx hb dX6_best_2 (by decide +kernel) ?_
  refine vp_callSi (va_runS (As := [.int (zI (n)), .int (zI (1)), .int (zI (14))]) (rest := []) ⟨hx, hb, hml, hown, hts⟩ (c_X6_within l (n : Int) 1 14 (by omega) (by omega) (by omega)) (va_cwS 3 hts gX6_best_X6_within rfl rfl rfl (by decide +kernel) ⟨Nat.le_of_ble_eq_true rfl, Nat.le_of_ble_eq_true rfl⟩) ⟨fun a U g mk q => q, fun U hU hW => ⟨rfl, trivial⟩⟩ rfl rfl hl.1 rfl (lv_room (Nat.le_of_ble_eq_true rfl)) dX6_best_4 ⟨Nat.le_of_ble_eq_true rfl, Nat.le_of_ble_eq_true rfl⟩).run (fun r hr4 => ?_)
  obtain rfl := hr4
  refine z_ifb_eq (P := (1 : Int) ≤ (n : Int) ∧ (n : Int) ≤ 14) (tgt := 19) hx hb dX6_best_7 (by decide) (fun c7 => ?_) (fun c7 => ?_)
  · exact absurd (show (1 : Int) ≤ (n : Int) ∧ (n : Int) ≤ 14 by omega) c7
  · refine lv_iload_n hx hb dX6_best_10 rfl (lv_at hl 2 rfl) ?_
    refine lv_iconst (v := zI 0) hx hb dX6_best_11 rfl ?_
    refine lv_iconst (v := zI 1) hx hb dX6_best_12 rfl ?_
    refine vp_callSi (va_runS (As := [.int (zI (0)), .int (zI (0)), .int (zI (1))]) (rest := []) ⟨hx, hb, hml, hown, hts⟩ (c_X6_within l 0 0 1 (by decide) (by omega) (by omega)) (va_cwS 3 hts gX6_best_X6_within rfl rfl rfl (by decide +kernel) ⟨Nat.le_of_ble_eq_true rfl, Nat.le_of_ble_eq_true rfl⟩) ⟨fun a U g mk q => q, fun U hU hW => ⟨rfl, trivial⟩⟩ rfl rfl hl.1 rfl (lv_room (Nat.le_of_ble_eq_true rfl)) dX6_best_13 ⟨Nat.le_of_ble_eq_true rfl, Nat.le_of_ble_eq_true rfl⟩).run (fun r hr13 => ?_)
    obtain rfl := hr13
    refine z_ifb_ne (P := (0) ≤ (0) ∧ (0) ≤ (1)) (tgt := 21) hx hb dX6_best_16 (by decide) (fun c16 => ?_) (fun c16 => ?_)
    · refine lv_iload_n hx hb dX6_best_21 rfl (lv_at hl 3 rfl) ?_
      rcases (show (what) = 0 ∨ (what) = 1 ∨ (what) = 2 ∨ (what) = 3 ∨ ((what) < 0 ∨ 3 < (what)) by omega) with hw22 | hw22 | hw22 | hw22 | hw22
      · refine z_tableIn (off := 30) (tgt := 52) hx hb 0 dX6_best_22 (by omega) (by omega) (by omega) rfl (by decide) ?_
        refine lv_aload_n hx hb dX6_best_52 rfl (lv_at hl 0 rfl) ?_
        refine lv_iload_n hx hb dX6_best_53 rfl (lv_at hl 1 rfl) ?_
        refine lv_iload_n hx hb dX6_best_54 rfl (lv_at hl 2 rfl) ?_
        have hPc := hP.sub (ws' := [oX x a (((R : Nat) : Int)), aQ t 5 (a 4) 15 (pa)]) [0, 1] rfl
        have hDc := hD.sub (ws' := [oX x a (((R : Nat) : Int)), aQ t 5 (a 4) 15 (pa)]) [0, 1] (by decide) rfl
        have hFc := va_free (wc := [oX x a (((R : Nat) : Int)), aQ t 5 (a 4) 15 (pa)]) hD hS hA [0, 1] rfl
        refine va_callr (va_runV (As := [.int (zI (n)), .int (zI (0))]) (rest := []) ⟨hx, hb, hml, hown, hts⟩ (c_X6_bestRowsOf_0n l D t s.heap.size x a R pa n gn hs) (cwV 2 hts gX6_best_X6_bestRowsOf rfl rfl rfl (by decide +kernel) ⟨Nat.le_of_ble_eq_true rfl, Nat.le_of_ble_eq_true rfl⟩) ⟨fun a U g mk q => by obtain ⟨q0, q1, qP, qK, qD⟩ := q; exact ⟨q0, q1, qP, va_K.moved (u := U) (U := U.calling g mk a) (Vm.Alike.refl U.vm) qK, qD⟩, va_recv hK hPc (ci := 5) (q0 := 0) rfl rfl, fun U hU hW => ⟨rfl, by rw [hU], by rw [hU]; exact hPc, va_K.moved hW.alike hK, hDc.weaken (fun _ _ _ _ => trivial)⟩⟩ rfl rfl hl.1 rfl (lv_room (Nat.le_of_ble_eq_true rfl)) dX6_best_55 ⟨Nat.le_of_ble_eq_true rfl, Nat.le_of_ble_eq_true rfl⟩) hS (fun q _ h => hFc q h) hFc (fun u r tq H1 locs ht hvm hr55 hB hz1 hk1 hS => ?_)
        obtain ⟨hP1, hK1, hD1⟩ := hB
        rw [ht] at hP1
        obtain ⟨hP, hD⟩ := va_join (wr := []) (w1 := [oX x a (((R : Nat) : Int)), aQ t 5 (a 4) 15 (va_up pa n (some r)), (r, .inr (2, [.int (zI ((bv n 0).1)), .int (zI ((((bv n 0).2.1 : Nat) : Int))), .int (zI ((((bv n 0).2.2.1 : Nat) : Int))), .int (zI ((((bv n 0).2.2.2 : Nat) : Int)))]))]) hP hD [0, 1] [] rfl rfl (by decide) (by decide) hk1 hFc hP1 hD1
        generalize H1 = H at hP hS ⊢
        have hP : va_P D vwCl [oX x a (((R : Nat) : Int)), aQ t 5 (a 4) 15 (va_up pa n (some r)), (r, .inr (2, [.int (zI ((bv n 0).1)), .int (zI ((((bv n 0).2.1 : Nat) : Int))), .int (zI ((((bv n 0).2.2.1 : Nat) : Int))), .int (zI ((((bv n 0).2.2.2 : Nat) : Int)))]))] H := hP
        have hD : va_D AA [oX x a (((R : Nat) : Int)), aQ t 5 (a 4) 15 (va_up pa n (some r)), (r, .inr (2, [.int (zI ((bv n 0).1)), .int (zI ((((bv n 0).2.1 : Nat) : Int))), .int (zI ((((bv n 0).2.2.1 : Nat) : Int))), .int (zI ((((bv n 0).2.2.2 : Nat) : Int)))]))] := hD
        try dsimp only at hr55
        refine va_get (D := D) (ci := 2) (v := .int (zI ((bv n 0).1))) (C := RX0) (T := TX0) (N := 4) hx hb hts iX0 hown hK hP 2 rfl rfl 0 (by decide) (hts (.fieldLink RX6 183 "CancelRows$BestRows" "value" "I") (by decide +kernel)) (fun _ h9 => h9) rfl dX6_best_58 ?_
        have hP := hP.sub (ws' := [oX x a (((R : Nat) : Int)), aQ t 5 (a 4) 15 (va_up pa n (some (r))), (r, .inr (2, [.int (zI ((bv n 0).1)), .int (zI ((((bv n 0).2.1 : Nat) : Int))), .int (zI ((((bv n 0).2.2.1 : Nat) : Int))), .int (zI ((((bv n 0).2.2.2 : Nat) : Int)))]))]) [0, 1, 2] rfl
        have hD := hD.sub (ws' := [oX x a (((R : Nat) : Int)), aQ t 5 (a 4) 15 (va_up pa n (some (r))), (r, .inr (2, [.int (zI ((bv n 0).1)), .int (zI ((((bv n 0).2.1 : Nat) : Int))), .int (zI ((((bv n 0).2.2.1 : Nat) : Int))), .int (zI ((((bv n 0).2.2.2 : Nat) : Int)))]))]) [0, 1, 2] (by decide) rfl
        exact W.iret (v := (zI ((bv n 0).1))) hx hb hr (fun tq ht hW => ⟨⟨_, (r), rfl, by rw [hw22]; rfl, by rw [ht]; exact hP, va_K.moved hW.alike hK, hD⟩, hS.F ht⟩) hS.2.2 dX6_best_61
      · refine z_tableIn (off := 40) (tgt := 62) hx hb 1 dX6_best_22 (by omega) (by omega) (by omega) rfl (by decide) ?_
        refine lv_aload_n hx hb dX6_best_62 rfl (lv_at hl 0 rfl) ?_
        refine lv_iload_n hx hb dX6_best_63 rfl (lv_at hl 1 rfl) ?_
        refine lv_iload_n hx hb dX6_best_64 rfl (lv_at hl 2 rfl) ?_
        have hPc := hP.sub (ws' := [oX x a (((R : Nat) : Int)), aQ t 5 (a 4) 15 (pa)]) [0, 1] rfl
        have hDc := hD.sub (ws' := [oX x a (((R : Nat) : Int)), aQ t 5 (a 4) 15 (pa)]) [0, 1] (by decide) rfl
        have hFc := va_free (wc := [oX x a (((R : Nat) : Int)), aQ t 5 (a 4) 15 (pa)]) hD hS hA [0, 1] rfl
        refine va_callr (va_runV (As := [.int (zI (n)), .int (zI (0))]) (rest := []) ⟨hx, hb, hml, hown, hts⟩ (c_X6_bestRowsOf_0n l D t s.heap.size x a R pa n gn hs) (cwV 2 hts gX6_best_X6_bestRowsOf rfl rfl rfl (by decide +kernel) ⟨Nat.le_of_ble_eq_true rfl, Nat.le_of_ble_eq_true rfl⟩) ⟨fun a U g mk q => by obtain ⟨q0, q1, qP, qK, qD⟩ := q; exact ⟨q0, q1, qP, va_K.moved (u := U) (U := U.calling g mk a) (Vm.Alike.refl U.vm) qK, qD⟩, va_recv hK hPc (ci := 5) (q0 := 0) rfl rfl, fun U hU hW => ⟨rfl, by rw [hU], by rw [hU]; exact hPc, va_K.moved hW.alike hK, hDc.weaken (fun _ _ _ _ => trivial)⟩⟩ rfl rfl hl.1 rfl (lv_room (Nat.le_of_ble_eq_true rfl)) dX6_best_65 ⟨Nat.le_of_ble_eq_true rfl, Nat.le_of_ble_eq_true rfl⟩) hS (fun q _ h => hFc q h) hFc (fun u r tq H1 locs ht hvm hr65 hB hz1 hk1 hS => ?_)
        obtain ⟨hP1, hK1, hD1⟩ := hB
        rw [ht] at hP1
        obtain ⟨hP, hD⟩ := va_join (wr := []) (w1 := [oX x a (((R : Nat) : Int)), aQ t 5 (a 4) 15 (va_up pa n (some r)), (r, .inr (2, [.int (zI ((bv n 0).1)), .int (zI ((((bv n 0).2.1 : Nat) : Int))), .int (zI ((((bv n 0).2.2.1 : Nat) : Int))), .int (zI ((((bv n 0).2.2.2 : Nat) : Int)))]))]) hP hD [0, 1] [] rfl rfl (by decide) (by decide) hk1 hFc hP1 hD1
        generalize H1 = H at hP hS ⊢
        have hP : va_P D vwCl [oX x a (((R : Nat) : Int)), aQ t 5 (a 4) 15 (va_up pa n (some r)), (r, .inr (2, [.int (zI ((bv n 0).1)), .int (zI ((((bv n 0).2.1 : Nat) : Int))), .int (zI ((((bv n 0).2.2.1 : Nat) : Int))), .int (zI ((((bv n 0).2.2.2 : Nat) : Int)))]))] H := hP
        have hD : va_D AA [oX x a (((R : Nat) : Int)), aQ t 5 (a 4) 15 (va_up pa n (some r)), (r, .inr (2, [.int (zI ((bv n 0).1)), .int (zI ((((bv n 0).2.1 : Nat) : Int))), .int (zI ((((bv n 0).2.2.1 : Nat) : Int))), .int (zI ((((bv n 0).2.2.2 : Nat) : Int)))]))] := hD
        try dsimp only at hr65
        refine va_get (D := D) (ci := 2) (v := .int (zI ((((bv n 0).2.1 : Nat) : Int)))) (C := RX0) (T := TX0) (N := 4) hx hb hts iX0 hown hK hP 2 rfl rfl 1 (by decide) (hts (.fieldLink RX6 186 "CancelRows$BestRows" "leastNumber" "I") (by decide +kernel)) (fun _ h9 => h9) rfl dX6_best_68 ?_
        have hP := hP.sub (ws' := [oX x a (((R : Nat) : Int)), aQ t 5 (a 4) 15 (va_up pa n (some (r))), (r, .inr (2, [.int (zI ((bv n 0).1)), .int (zI ((((bv n 0).2.1 : Nat) : Int))), .int (zI ((((bv n 0).2.2.1 : Nat) : Int))), .int (zI ((((bv n 0).2.2.2 : Nat) : Int)))]))]) [0, 1, 2] rfl
        have hD := hD.sub (ws' := [oX x a (((R : Nat) : Int)), aQ t 5 (a 4) 15 (va_up pa n (some (r))), (r, .inr (2, [.int (zI ((bv n 0).1)), .int (zI ((((bv n 0).2.1 : Nat) : Int))), .int (zI ((((bv n 0).2.2.1 : Nat) : Int))), .int (zI ((((bv n 0).2.2.2 : Nat) : Int)))]))]) [0, 1, 2] (by decide) rfl
        exact W.iret (v := (zI ((((bv n 0).2.1 : Nat) : Int)))) hx hb hr (fun tq ht hW => ⟨⟨_, (r), rfl, by rw [hw22]; rfl, by rw [ht]; exact hP, va_K.moved hW.alike hK, hD⟩, hS.F ht⟩) hS.2.2 dX6_best_71
      · refine z_tableIn (off := 50) (tgt := 72) hx hb 2 dX6_best_22 (by omega) (by omega) (by omega) rfl (by decide) ?_
        refine lv_aload_n hx hb dX6_best_72 rfl (lv_at hl 0 rfl) ?_
        refine lv_iload_n hx hb dX6_best_73 rfl (lv_at hl 1 rfl) ?_
        refine lv_iload_n hx hb dX6_best_74 rfl (lv_at hl 2 rfl) ?_
        have hPc := hP.sub (ws' := [oX x a (((R : Nat) : Int)), aQ t 5 (a 4) 15 (pa)]) [0, 1] rfl
        have hDc := hD.sub (ws' := [oX x a (((R : Nat) : Int)), aQ t 5 (a 4) 15 (pa)]) [0, 1] (by decide) rfl
        have hFc := va_free (wc := [oX x a (((R : Nat) : Int)), aQ t 5 (a 4) 15 (pa)]) hD hS hA [0, 1] rfl
        refine va_callr (va_runV (As := [.int (zI (n)), .int (zI (0))]) (rest := []) ⟨hx, hb, hml, hown, hts⟩ (c_X6_bestRowsOf_0n l D t s.heap.size x a R pa n gn hs) (cwV 2 hts gX6_best_X6_bestRowsOf rfl rfl rfl (by decide +kernel) ⟨Nat.le_of_ble_eq_true rfl, Nat.le_of_ble_eq_true rfl⟩) ⟨fun a U g mk q => by obtain ⟨q0, q1, qP, qK, qD⟩ := q; exact ⟨q0, q1, qP, va_K.moved (u := U) (U := U.calling g mk a) (Vm.Alike.refl U.vm) qK, qD⟩, va_recv hK hPc (ci := 5) (q0 := 0) rfl rfl, fun U hU hW => ⟨rfl, by rw [hU], by rw [hU]; exact hPc, va_K.moved hW.alike hK, hDc.weaken (fun _ _ _ _ => trivial)⟩⟩ rfl rfl hl.1 rfl (lv_room (Nat.le_of_ble_eq_true rfl)) dX6_best_75 ⟨Nat.le_of_ble_eq_true rfl, Nat.le_of_ble_eq_true rfl⟩) hS (fun q _ h => hFc q h) hFc (fun u r tq H1 locs ht hvm hr75 hB hz1 hk1 hS => ?_)
        obtain ⟨hP1, hK1, hD1⟩ := hB
        rw [ht] at hP1
        obtain ⟨hP, hD⟩ := va_join (wr := []) (w1 := [oX x a (((R : Nat) : Int)), aQ t 5 (a 4) 15 (va_up pa n (some r)), (r, .inr (2, [.int (zI ((bv n 0).1)), .int (zI ((((bv n 0).2.1 : Nat) : Int))), .int (zI ((((bv n 0).2.2.1 : Nat) : Int))), .int (zI ((((bv n 0).2.2.2 : Nat) : Int)))]))]) hP hD [0, 1] [] rfl rfl (by decide) (by decide) hk1 hFc hP1 hD1
        generalize H1 = H at hP hS ⊢
        have hP : va_P D vwCl [oX x a (((R : Nat) : Int)), aQ t 5 (a 4) 15 (va_up pa n (some r)), (r, .inr (2, [.int (zI ((bv n 0).1)), .int (zI ((((bv n 0).2.1 : Nat) : Int))), .int (zI ((((bv n 0).2.2.1 : Nat) : Int))), .int (zI ((((bv n 0).2.2.2 : Nat) : Int)))]))] H := hP
        have hD : va_D AA [oX x a (((R : Nat) : Int)), aQ t 5 (a 4) 15 (va_up pa n (some r)), (r, .inr (2, [.int (zI ((bv n 0).1)), .int (zI ((((bv n 0).2.1 : Nat) : Int))), .int (zI ((((bv n 0).2.2.1 : Nat) : Int))), .int (zI ((((bv n 0).2.2.2 : Nat) : Int)))]))] := hD
        try dsimp only at hr75
        refine va_get (D := D) (ci := 2) (v := .int (zI ((((bv n 0).2.2.1 : Nat) : Int)))) (C := RX0) (T := TX0) (N := 4) hx hb hts iX0 hown hK hP 2 rfl rfl 2 (by decide) (hts (.fieldLink RX6 189 "CancelRows$BestRows" "many" "I") (by decide +kernel)) (fun _ h9 => h9) rfl dX6_best_78 ?_
        have hP := hP.sub (ws' := [oX x a (((R : Nat) : Int)), aQ t 5 (a 4) 15 (va_up pa n (some (r))), (r, .inr (2, [.int (zI ((bv n 0).1)), .int (zI ((((bv n 0).2.1 : Nat) : Int))), .int (zI ((((bv n 0).2.2.1 : Nat) : Int))), .int (zI ((((bv n 0).2.2.2 : Nat) : Int)))]))]) [0, 1, 2] rfl
        have hD := hD.sub (ws' := [oX x a (((R : Nat) : Int)), aQ t 5 (a 4) 15 (va_up pa n (some (r))), (r, .inr (2, [.int (zI ((bv n 0).1)), .int (zI ((((bv n 0).2.1 : Nat) : Int))), .int (zI ((((bv n 0).2.2.1 : Nat) : Int))), .int (zI ((((bv n 0).2.2.2 : Nat) : Int)))]))]) [0, 1, 2] (by decide) rfl
        exact W.iret (v := (zI ((((bv n 0).2.2.1 : Nat) : Int)))) hx hb hr (fun tq ht hW => ⟨⟨_, (r), rfl, by rw [hw22]; rfl, by rw [ht]; exact hP, va_K.moved hW.alike hK, hD⟩, hS.F ht⟩) hS.2.2 dX6_best_81
      · refine z_tableIn (off := 60) (tgt := 82) hx hb 3 dX6_best_22 (by omega) (by omega) (by omega) rfl (by decide) ?_
        refine lv_aload_n hx hb dX6_best_82 rfl (lv_at hl 0 rfl) ?_
        refine lv_iload_n hx hb dX6_best_83 rfl (lv_at hl 1 rfl) ?_
        refine lv_iload_n hx hb dX6_best_84 rfl (lv_at hl 2 rfl) ?_
        have hPc := hP.sub (ws' := [oX x a (((R : Nat) : Int)), aQ t 5 (a 4) 15 (pa)]) [0, 1] rfl
        have hDc := hD.sub (ws' := [oX x a (((R : Nat) : Int)), aQ t 5 (a 4) 15 (pa)]) [0, 1] (by decide) rfl
        have hFc := va_free (wc := [oX x a (((R : Nat) : Int)), aQ t 5 (a 4) 15 (pa)]) hD hS hA [0, 1] rfl
        refine va_callr (va_runV (As := [.int (zI (n)), .int (zI (0))]) (rest := []) ⟨hx, hb, hml, hown, hts⟩ (c_X6_bestRowsOf_0n l D t s.heap.size x a R pa n gn hs) (cwV 2 hts gX6_best_X6_bestRowsOf rfl rfl rfl (by decide +kernel) ⟨Nat.le_of_ble_eq_true rfl, Nat.le_of_ble_eq_true rfl⟩) ⟨fun a U g mk q => by obtain ⟨q0, q1, qP, qK, qD⟩ := q; exact ⟨q0, q1, qP, va_K.moved (u := U) (U := U.calling g mk a) (Vm.Alike.refl U.vm) qK, qD⟩, va_recv hK hPc (ci := 5) (q0 := 0) rfl rfl, fun U hU hW => ⟨rfl, by rw [hU], by rw [hU]; exact hPc, va_K.moved hW.alike hK, hDc.weaken (fun _ _ _ _ => trivial)⟩⟩ rfl rfl hl.1 rfl (lv_room (Nat.le_of_ble_eq_true rfl)) dX6_best_85 ⟨Nat.le_of_ble_eq_true rfl, Nat.le_of_ble_eq_true rfl⟩) hS (fun q _ h => hFc q h) hFc (fun u r tq H1 locs ht hvm hr85 hB hz1 hk1 hS => ?_)
        obtain ⟨hP1, hK1, hD1⟩ := hB
        rw [ht] at hP1
        obtain ⟨hP, hD⟩ := va_join (wr := []) (w1 := [oX x a (((R : Nat) : Int)), aQ t 5 (a 4) 15 (va_up pa n (some r)), (r, .inr (2, [.int (zI ((bv n 0).1)), .int (zI ((((bv n 0).2.1 : Nat) : Int))), .int (zI ((((bv n 0).2.2.1 : Nat) : Int))), .int (zI ((((bv n 0).2.2.2 : Nat) : Int)))]))]) hP hD [0, 1] [] rfl rfl (by decide) (by decide) hk1 hFc hP1 hD1
        generalize H1 = H at hP hS ⊢
        have hP : va_P D vwCl [oX x a (((R : Nat) : Int)), aQ t 5 (a 4) 15 (va_up pa n (some r)), (r, .inr (2, [.int (zI ((bv n 0).1)), .int (zI ((((bv n 0).2.1 : Nat) : Int))), .int (zI ((((bv n 0).2.2.1 : Nat) : Int))), .int (zI ((((bv n 0).2.2.2 : Nat) : Int)))]))] H := hP
        have hD : va_D AA [oX x a (((R : Nat) : Int)), aQ t 5 (a 4) 15 (va_up pa n (some r)), (r, .inr (2, [.int (zI ((bv n 0).1)), .int (zI ((((bv n 0).2.1 : Nat) : Int))), .int (zI ((((bv n 0).2.2.1 : Nat) : Int))), .int (zI ((((bv n 0).2.2.2 : Nat) : Int)))]))] := hD
        try dsimp only at hr85
        refine va_get (D := D) (ci := 2) (v := .int (zI ((((bv n 0).2.2.2 : Nat) : Int)))) (C := RX0) (T := TX0) (N := 4) hx hb hts iX0 hown hK hP 2 rfl rfl 3 (by decide) (hts (.fieldLink RX6 190 "CancelRows$BestRows" "kinds" "I") (by decide +kernel)) (fun _ h9 => h9) rfl dX6_best_88 ?_
        have hP := hP.sub (ws' := [oX x a (((R : Nat) : Int)), aQ t 5 (a 4) 15 (va_up pa n (some (r))), (r, .inr (2, [.int (zI ((bv n 0).1)), .int (zI ((((bv n 0).2.1 : Nat) : Int))), .int (zI ((((bv n 0).2.2.1 : Nat) : Int))), .int (zI ((((bv n 0).2.2.2 : Nat) : Int)))]))]) [0, 1, 2] rfl
        have hD := hD.sub (ws' := [oX x a (((R : Nat) : Int)), aQ t 5 (a 4) 15 (va_up pa n (some (r))), (r, .inr (2, [.int (zI ((bv n 0).1)), .int (zI ((((bv n 0).2.1 : Nat) : Int))), .int (zI ((((bv n 0).2.2.1 : Nat) : Int))), .int (zI ((((bv n 0).2.2.2 : Nat) : Int)))]))]) [0, 1, 2] (by decide) rfl
        exact W.iret (v := (zI ((((bv n 0).2.2.2 : Nat) : Int)))) hx hb hr (fun tq ht hW => ⟨⟨_, (r), rfl, by rw [hw22]; rfl, by rw [ht]; exact hP, va_K.moved hW.alike hK, hD⟩, hS.F ht⟩) hS.2.2 dX6_best_91
      · refine z_tableOut (tgt := 92) hx hb dX6_best_22 (by omega) (by omega) (by decide) ?_
        omega
    · exact absurd (by decide) c16

-- best, way 1, known
set_option maxHeartbeats 4000000 in
set_option maxRecDepth 100000 in
theorem c_X6_best_1s (l : Launch) (D : va_G) (t : Nat → ClassId) (x : Nat) (a : Nat → Nat) (R : Nat) (pa : Nat → Option Nat) (q : Nat) (n : Nat) (gn : 1 ≤ n ∧ n ≤ 14) (what : Int) (gwh : 0 ≤ what ∧ what ≤ 3) (hs : pa n = some q) : Met l yX6_best wsX6_best ({ frames := 1, cells := 0, slots := 0, locals := 23 }) (va_Pc [.ref x, .int (zI (n)), .int (zI (1)), .int (zI (what))] (fun U => va_P D vwCl ([oX x a (((R : Nat) : Int)), aQ t 5 (a 5) 15 (pa), (q, .inr (2, [.int (zI ((bv n 1).1)), .int (zI ((((bv n 1).2.1 : Nat) : Int))), .int (zI ((((bv n 1).2.2.1 : Nat) : Int))), .int (zI ((((bv n 1).2.2.2 : Nat) : Int)))]))]) U.heap ∧ va_K D vwCl (TY t) U)) (vp_Si (fun r => r = zI (bw (bv n 1) what))) 0 0 (fun _ => False) := by
  refine Met.ofW (cc := cX6_best) (maxL := 4) (ret := (some .int)) (by decide) rfl ?_
  intro p e s m args below meth c s₁ B hml hv
  obtain ⟨rfl, hP, hK⟩ := hv
  have hx := B.exec
  have hb := B.bytes
  have hr := B.returns
  have hts := atoms_spec (ws := wsX6_best) B.pre
  have hown : s.vm.findClass RX6 = some m.cls := findClass_of_methodNamed B.named
  have hlocks := B.notSynchronized
  have hl := lv_entry ([.ref x, .int (zI (n)), .int (zI (1)), .int (zI (what))]) (n := 4) (Nat.le_of_ble_eq_true rfl)
  rw [lg_entry_eq]
  generalize (lg_sl ([.ref x, .int (zI (n)), .int (zI (1)), .int (zI (what))]) ++ List.replicate (4 - (lg_sl ([.ref x, .int (zI (n)), .int (zI (1)), .int (zI (what))])).length) Slot.unset).toArray = ls at hl ⊢
  have hl : lv_has ls 4 [(0, .ref x), (1, .int (zI (n))), (2, .int (zI (1))), (3, .int (zI (what)))] := hl
  have iX0 : ∀ w ∈ u_ws RX0 TX0 4, w ∈ wsX6_best := by decide +kernel
  refine lv_iload_n hx hb dX6_best_0 rfl (lv_at hl 1 rfl) ?_
  refine lv_iconst (v := zI 1) hx hb dX6_best_1 rfl ?_
  refine lv_bipush (v := zI 14) hx hb dX6_best_2 (by decide +kernel) ?_
  refine vp_callSi (va_runS (As := [.int (zI (n)), .int (zI (1)), .int (zI (14))]) (rest := []) ⟨hx, hb, hml, hown, hts⟩ (c_X6_within l (n : Int) 1 14 (by omega) (by omega) (by omega)) (va_cwS 3 hts gX6_best_X6_within rfl rfl rfl (by decide +kernel) ⟨Nat.le_of_ble_eq_true rfl, Nat.le_of_ble_eq_true rfl⟩) ⟨fun a U g mk q => q, fun U hU hW => ⟨rfl, trivial⟩⟩ rfl rfl hl.1 rfl (lv_room (Nat.le_of_ble_eq_true rfl)) dX6_best_4 ⟨Nat.le_of_ble_eq_true rfl, Nat.le_of_ble_eq_true rfl⟩).run (fun r hr4 => ?_)
  obtain rfl := hr4
  refine z_ifb_eq (P := (1 : Int) ≤ (n : Int) ∧ (n : Int) ≤ 14) (tgt := 19) hx hb dX6_best_7 (by decide) (fun c7 => ?_) (fun c7 => ?_)
  · exact absurd (show (1 : Int) ≤ (n : Int) ∧ (n : Int) ≤ 14 by omega) c7
  · refine lv_iload_n hx hb dX6_best_10 rfl (lv_at hl 2 rfl) ?_
    refine lv_iconst (v := zI 0) hx hb dX6_best_11 rfl ?_
    refine lv_iconst (v := zI 1) hx hb dX6_best_12 rfl ?_
    refine vp_callSi (va_runS (As := [.int (zI (1)), .int (zI (0)), .int (zI (1))]) (rest := []) ⟨hx, hb, hml, hown, hts⟩ (c_X6_within l 1 0 1 (by decide) (by omega) (by omega)) (va_cwS 3 hts gX6_best_X6_within rfl rfl rfl (by decide +kernel) ⟨Nat.le_of_ble_eq_true rfl, Nat.le_of_ble_eq_true rfl⟩) ⟨fun a U g mk q => q, fun U hU hW => ⟨rfl, trivial⟩⟩ rfl rfl hl.1 rfl (lv_room (Nat.le_of_ble_eq_true rfl)) dX6_best_13 ⟨Nat.le_of_ble_eq_true rfl, Nat.le_of_ble_eq_true rfl⟩).run (fun r hr13 => ?_)
    obtain rfl := hr13
    refine z_ifb_ne (P := (0) ≤ (1) ∧ (1) ≤ (1)) (tgt := 21) hx hb dX6_best_16 (by decide) (fun c16 => ?_) (fun c16 => ?_)
    · refine lv_iload_n hx hb dX6_best_21 rfl (lv_at hl 3 rfl) ?_
      rcases (show (what) = 0 ∨ (what) = 1 ∨ (what) = 2 ∨ (what) = 3 ∨ ((what) < 0 ∨ 3 < (what)) by omega) with hw22 | hw22 | hw22 | hw22 | hw22
      · refine z_tableIn (off := 30) (tgt := 52) hx hb 0 dX6_best_22 (by omega) (by omega) (by omega) rfl (by decide) ?_
        refine lv_aload_n hx hb dX6_best_52 rfl (lv_at hl 0 rfl) ?_
        refine lv_iload_n hx hb dX6_best_53 rfl (lv_at hl 1 rfl) ?_
        refine lv_iload_n hx hb dX6_best_54 rfl (lv_at hl 2 rfl) ?_
        have hPc := hP.sub (ws' := [oX x a (((R : Nat) : Int)), aQ t 5 (a 5) 15 (pa)]) [0, 1] rfl
        refine va_csq (va_runV (As := [.int (zI (n)), .int (zI (1))]) (rest := []) ⟨hx, hb, hml, hown, hts⟩ (c_X6_bestRowsOf_1s l D t x a R pa q n gn hs) (cwV 2 hts gX6_best_X6_bestRowsOf rfl rfl rfl (by decide +kernel) ⟨Nat.le_of_ble_eq_true rfl, Nat.le_of_ble_eq_true rfl⟩) ⟨fun a U g mk q => ⟨q.1, q.2.1, va_K.moved (u := U) (U := U.calling g mk a) (Vm.Alike.refl U.vm) q.2.2⟩, va_recv hK hPc (ci := 5) (q0 := 0) rfl rfl, fun U hU hW => ⟨rfl, by rw [hU]; exact hPc, va_K.moved hW.alike hK⟩⟩ rfl rfl hl.1 rfl (lv_room (Nat.le_of_ble_eq_true rfl)) dX6_best_55 ⟨Nat.le_of_ble_eq_true rfl, Nat.le_of_ble_eq_true rfl⟩).run (fun r hr55 => ?_)
        obtain rfl := hr55
        refine va_get (D := D) (ci := 2) (v := .int (zI ((bv n 1).1))) (C := RX0) (T := TX0) (N := 4) hx hb hts iX0 hown hK hP 2 rfl rfl 0 (by decide) (hts (.fieldLink RX6 183 "CancelRows$BestRows" "value" "I") (by decide +kernel)) (fun _ h9 => h9) rfl dX6_best_58 ?_
        exact W.iret (v := (zI ((bv n 1).1))) hx hb hr (fun tq ht hW => ⟨_, rfl, by rw [hw22]; rfl, ht⟩) (fun q h => by cases h) dX6_best_61
      · refine z_tableIn (off := 40) (tgt := 62) hx hb 1 dX6_best_22 (by omega) (by omega) (by omega) rfl (by decide) ?_
        refine lv_aload_n hx hb dX6_best_62 rfl (lv_at hl 0 rfl) ?_
        refine lv_iload_n hx hb dX6_best_63 rfl (lv_at hl 1 rfl) ?_
        refine lv_iload_n hx hb dX6_best_64 rfl (lv_at hl 2 rfl) ?_
        have hPc := hP.sub (ws' := [oX x a (((R : Nat) : Int)), aQ t 5 (a 5) 15 (pa)]) [0, 1] rfl
        refine va_csq (va_runV (As := [.int (zI (n)), .int (zI (1))]) (rest := []) ⟨hx, hb, hml, hown, hts⟩ (c_X6_bestRowsOf_1s l D t x a R pa q n gn hs) (cwV 2 hts gX6_best_X6_bestRowsOf rfl rfl rfl (by decide +kernel) ⟨Nat.le_of_ble_eq_true rfl, Nat.le_of_ble_eq_true rfl⟩) ⟨fun a U g mk q => ⟨q.1, q.2.1, va_K.moved (u := U) (U := U.calling g mk a) (Vm.Alike.refl U.vm) q.2.2⟩, va_recv hK hPc (ci := 5) (q0 := 0) rfl rfl, fun U hU hW => ⟨rfl, by rw [hU]; exact hPc, va_K.moved hW.alike hK⟩⟩ rfl rfl hl.1 rfl (lv_room (Nat.le_of_ble_eq_true rfl)) dX6_best_65 ⟨Nat.le_of_ble_eq_true rfl, Nat.le_of_ble_eq_true rfl⟩).run (fun r hr65 => ?_)
        obtain rfl := hr65
        refine va_get (D := D) (ci := 2) (v := .int (zI ((((bv n 1).2.1 : Nat) : Int)))) (C := RX0) (T := TX0) (N := 4) hx hb hts iX0 hown hK hP 2 rfl rfl 1 (by decide) (hts (.fieldLink RX6 186 "CancelRows$BestRows" "leastNumber" "I") (by decide +kernel)) (fun _ h9 => h9) rfl dX6_best_68 ?_
        exact W.iret (v := (zI ((((bv n 1).2.1 : Nat) : Int)))) hx hb hr (fun tq ht hW => ⟨_, rfl, by rw [hw22]; rfl, ht⟩) (fun q h => by cases h) dX6_best_71
      · refine z_tableIn (off := 50) (tgt := 72) hx hb 2 dX6_best_22 (by omega) (by omega) (by omega) rfl (by decide) ?_
        refine lv_aload_n hx hb dX6_best_72 rfl (lv_at hl 0 rfl) ?_
        refine lv_iload_n hx hb dX6_best_73 rfl (lv_at hl 1 rfl) ?_
        refine lv_iload_n hx hb dX6_best_74 rfl (lv_at hl 2 rfl) ?_
        have hPc := hP.sub (ws' := [oX x a (((R : Nat) : Int)), aQ t 5 (a 5) 15 (pa)]) [0, 1] rfl
        refine va_csq (va_runV (As := [.int (zI (n)), .int (zI (1))]) (rest := []) ⟨hx, hb, hml, hown, hts⟩ (c_X6_bestRowsOf_1s l D t x a R pa q n gn hs) (cwV 2 hts gX6_best_X6_bestRowsOf rfl rfl rfl (by decide +kernel) ⟨Nat.le_of_ble_eq_true rfl, Nat.le_of_ble_eq_true rfl⟩) ⟨fun a U g mk q => ⟨q.1, q.2.1, va_K.moved (u := U) (U := U.calling g mk a) (Vm.Alike.refl U.vm) q.2.2⟩, va_recv hK hPc (ci := 5) (q0 := 0) rfl rfl, fun U hU hW => ⟨rfl, by rw [hU]; exact hPc, va_K.moved hW.alike hK⟩⟩ rfl rfl hl.1 rfl (lv_room (Nat.le_of_ble_eq_true rfl)) dX6_best_75 ⟨Nat.le_of_ble_eq_true rfl, Nat.le_of_ble_eq_true rfl⟩).run (fun r hr75 => ?_)
        obtain rfl := hr75
        refine va_get (D := D) (ci := 2) (v := .int (zI ((((bv n 1).2.2.1 : Nat) : Int)))) (C := RX0) (T := TX0) (N := 4) hx hb hts iX0 hown hK hP 2 rfl rfl 2 (by decide) (hts (.fieldLink RX6 189 "CancelRows$BestRows" "many" "I") (by decide +kernel)) (fun _ h9 => h9) rfl dX6_best_78 ?_
        exact W.iret (v := (zI ((((bv n 1).2.2.1 : Nat) : Int)))) hx hb hr (fun tq ht hW => ⟨_, rfl, by rw [hw22]; rfl, ht⟩) (fun q h => by cases h) dX6_best_81
      · refine z_tableIn (off := 60) (tgt := 82) hx hb 3 dX6_best_22 (by omega) (by omega) (by omega) rfl (by decide) ?_
        refine lv_aload_n hx hb dX6_best_82 rfl (lv_at hl 0 rfl) ?_
        refine lv_iload_n hx hb dX6_best_83 rfl (lv_at hl 1 rfl) ?_
        refine lv_iload_n hx hb dX6_best_84 rfl (lv_at hl 2 rfl) ?_
        have hPc := hP.sub (ws' := [oX x a (((R : Nat) : Int)), aQ t 5 (a 5) 15 (pa)]) [0, 1] rfl
        refine va_csq (va_runV (As := [.int (zI (n)), .int (zI (1))]) (rest := []) ⟨hx, hb, hml, hown, hts⟩ (c_X6_bestRowsOf_1s l D t x a R pa q n gn hs) (cwV 2 hts gX6_best_X6_bestRowsOf rfl rfl rfl (by decide +kernel) ⟨Nat.le_of_ble_eq_true rfl, Nat.le_of_ble_eq_true rfl⟩) ⟨fun a U g mk q => ⟨q.1, q.2.1, va_K.moved (u := U) (U := U.calling g mk a) (Vm.Alike.refl U.vm) q.2.2⟩, va_recv hK hPc (ci := 5) (q0 := 0) rfl rfl, fun U hU hW => ⟨rfl, by rw [hU]; exact hPc, va_K.moved hW.alike hK⟩⟩ rfl rfl hl.1 rfl (lv_room (Nat.le_of_ble_eq_true rfl)) dX6_best_85 ⟨Nat.le_of_ble_eq_true rfl, Nat.le_of_ble_eq_true rfl⟩).run (fun r hr85 => ?_)
        obtain rfl := hr85
        refine va_get (D := D) (ci := 2) (v := .int (zI ((((bv n 1).2.2.2 : Nat) : Int)))) (C := RX0) (T := TX0) (N := 4) hx hb hts iX0 hown hK hP 2 rfl rfl 3 (by decide) (hts (.fieldLink RX6 190 "CancelRows$BestRows" "kinds" "I") (by decide +kernel)) (fun _ h9 => h9) rfl dX6_best_88 ?_
        exact W.iret (v := (zI ((((bv n 1).2.2.2 : Nat) : Int)))) hx hb hr (fun tq ht hW => ⟨_, rfl, by rw [hw22]; rfl, ht⟩) (fun q h => by cases h) dX6_best_91
      · refine z_tableOut (tgt := 92) hx hb dX6_best_22 (by omega) (by omega) (by decide) ?_
        omega
    · exact absurd (by decide) c16

-- best, way 1, new
set_option maxHeartbeats 4000000 in
set_option maxRecDepth 100000 in
theorem c_X6_best_1n (l : Launch) (D : va_G) (t : Nat → ClassId) (sz : Nat) (x : Nat) (a : Nat → Nat) (R : Nat) (pa : Nat → Option Nat) (n : Nat) (gn : 1 ≤ n ∧ n ≤ 14) (what : Int) (gwh : 0 ≤ what ∧ what ≤ 3) (hs : pa n = none) : Met l yX6_best wsX6_best ({ frames := 6, cells := 1, slots := 4, locals := 141 }) (va_Pc [.ref x, .int (zI (n)), .int (zI (1)), .int (zI (what))] (fun U => U.heap.size = sz ∧ va_P D vwCl ([oX x a (((R : Nat) : Int)), aQ t 5 (a 5) 15 (pa)]) U.heap ∧ va_K D vwCl (TY t) U ∧ va_D (fun _ => True) ([oX x a (((R : Nat) : Int)), aQ t 5 (a 5) 15 (pa)]))) (va_Qi (fun r (u : Nat) => r = zI (bw (bv n 1) what)) (fun (u : Nat) t1 => va_P D vwCl ([oX x a (((R : Nat) : Int)), aQ t 5 (a 5) 15 (va_up pa n (some (u))), (u, .inr (2, [.int (zI ((bv n 1).1)), .int (zI ((((bv n 1).2.1 : Nat) : Int))), .int (zI ((((bv n 1).2.2.1 : Nat) : Int))), .int (zI ((((bv n 1).2.2.2 : Nat) : Int)))]))]) t1.heap ∧ va_K D vwCl (TY t) t1 ∧ va_D (va_A ([oX x a (((R : Nat) : Int)), aQ t 5 (a 5) 15 (pa)]) sz) ([oX x a (((R : Nat) : Int)), aQ t 5 (a 5) 15 (va_up pa n (some (u))), (u, .inr (2, [.int (zI ((bv n 1).1)), .int (zI ((((bv n 1).2.1 : Nat) : Int))), .int (zI ((((bv n 1).2.2.1 : Nat) : Int))), .int (zI ((((bv n 1).2.2.2 : Nat) : Int)))]))])) (va_A ([oX x a (((R : Nat) : Int)), aQ t 5 (a 5) 15 (pa)]) sz)) 1 4 (va_A ([oX x a (((R : Nat) : Int)), aQ t 5 (a 5) 15 (pa)]) sz) := by
  refine Met.ofW (cc := cX6_best) (maxL := 4) (ret := (some .int)) (by decide) rfl ?_
  intro p e s m args below meth c s₁ B hml hv
  obtain ⟨rfl, hsz, hP, hK, hD0⟩ := hv
  have hx := B.exec
  have hb := B.bytes
  have hr := B.returns
  have hts := atoms_spec (ws := wsX6_best) B.pre
  have hown : s.vm.findClass RX6 = some m.cls := findClass_of_methodNamed B.named
  have hlocks := B.notSynchronized
  subst hsz
  have hD := hD0.self (sz := s.heap.size)
  generalize hAe : va_A ([oX x a (((R : Nat) : Int)), aQ t 5 (a 5) 15 (pa)]) s.heap.size = AA at hD ⊢
  have hA : ∀ q : Nat, s.heap.size ≤ q → AA q := fun q h => by rw [← hAe]; exact Or.inr h
  have hS : va_S AA s.heap s.heap [] := va_S.rf
  have hP : va_P D vwCl ([oX x a (((R : Nat) : Int)), aQ t 5 (a 5) 15 (pa)]) s.heap := hP
  have hl := lv_entry ([.ref x, .int (zI (n)), .int (zI (1)), .int (zI (what))]) (n := 4) (Nat.le_of_ble_eq_true rfl)
  rw [lg_entry_eq]
  generalize (lg_sl ([.ref x, .int (zI (n)), .int (zI (1)), .int (zI (what))]) ++ List.replicate (4 - (lg_sl ([.ref x, .int (zI (n)), .int (zI (1)), .int (zI (what))])).length) Slot.unset).toArray = ls at hl ⊢
  have hl : lv_has ls 4 [(0, .ref x), (1, .int (zI (n))), (2, .int (zI (1))), (3, .int (zI (what)))] := hl
  have iX0 : ∀ w ∈ u_ws RX0 TX0 4, w ∈ wsX6_best := by decide +kernel
  refine lv_iload_n hx hb dX6_best_0 rfl (lv_at hl 1 rfl) ?_
  refine lv_iconst (v := zI 1) hx hb dX6_best_1 rfl ?_
  refine lv_bipush (v := zI 14) hx hb dX6_best_2 (by decide +kernel) ?_
  refine vp_callSi (va_runS (As := [.int (zI (n)), .int (zI (1)), .int (zI (14))]) (rest := []) ⟨hx, hb, hml, hown, hts⟩ (c_X6_within l (n : Int) 1 14 (by omega) (by omega) (by omega)) (va_cwS 3 hts gX6_best_X6_within rfl rfl rfl (by decide +kernel) ⟨Nat.le_of_ble_eq_true rfl, Nat.le_of_ble_eq_true rfl⟩) ⟨fun a U g mk q => q, fun U hU hW => ⟨rfl, trivial⟩⟩ rfl rfl hl.1 rfl (lv_room (Nat.le_of_ble_eq_true rfl)) dX6_best_4 ⟨Nat.le_of_ble_eq_true rfl, Nat.le_of_ble_eq_true rfl⟩).run (fun r hr4 => ?_)
  obtain rfl := hr4
  refine z_ifb_eq (P := (1 : Int) ≤ (n : Int) ∧ (n : Int) ≤ 14) (tgt := 19) hx hb dX6_best_7 (by decide) (fun c7 => ?_) (fun c7 => ?_)
  · exact absurd (show (1 : Int) ≤ (n : Int) ∧ (n : Int) ≤ 14 by omega) c7
  · refine lv_iload_n hx hb dX6_best_10 rfl (lv_at hl 2 rfl) ?_
    refine lv_iconst (v := zI 0) hx hb dX6_best_11 rfl ?_
    refine lv_iconst (v := zI 1) hx hb dX6_best_12 rfl ?_
    refine vp_callSi (va_runS (As := [.int (zI (1)), .int (zI (0)), .int (zI (1))]) (rest := []) ⟨hx, hb, hml, hown, hts⟩ (c_X6_within l 1 0 1 (by decide) (by omega) (by omega)) (va_cwS 3 hts gX6_best_X6_within rfl rfl rfl (by decide +kernel) ⟨Nat.le_of_ble_eq_true rfl, Nat.le_of_ble_eq_true rfl⟩) ⟨fun a U g mk q => q, fun U hU hW => ⟨rfl, trivial⟩⟩ rfl rfl hl.1 rfl (lv_room (Nat.le_of_ble_eq_true rfl)) dX6_best_13 ⟨Nat.le_of_ble_eq_true rfl, Nat.le_of_ble_eq_true rfl⟩).run (fun r hr13 => ?_)
    obtain rfl := hr13
    refine z_ifb_ne (P := (0) ≤ (1) ∧ (1) ≤ (1)) (tgt := 21) hx hb dX6_best_16 (by decide) (fun c16 => ?_) (fun c16 => ?_)
    · refine lv_iload_n hx hb dX6_best_21 rfl (lv_at hl 3 rfl) ?_
      rcases (show (what) = 0 ∨ (what) = 1 ∨ (what) = 2 ∨ (what) = 3 ∨ ((what) < 0 ∨ 3 < (what)) by omega) with hw22 | hw22 | hw22 | hw22 | hw22
      · refine z_tableIn (off := 30) (tgt := 52) hx hb 0 dX6_best_22 (by omega) (by omega) (by omega) rfl (by decide) ?_
        refine lv_aload_n hx hb dX6_best_52 rfl (lv_at hl 0 rfl) ?_
        refine lv_iload_n hx hb dX6_best_53 rfl (lv_at hl 1 rfl) ?_
        refine lv_iload_n hx hb dX6_best_54 rfl (lv_at hl 2 rfl) ?_
        have hPc := hP.sub (ws' := [oX x a (((R : Nat) : Int)), aQ t 5 (a 5) 15 (pa)]) [0, 1] rfl
        have hDc := hD.sub (ws' := [oX x a (((R : Nat) : Int)), aQ t 5 (a 5) 15 (pa)]) [0, 1] (by decide) rfl
        have hFc := va_free (wc := [oX x a (((R : Nat) : Int)), aQ t 5 (a 5) 15 (pa)]) hD hS hA [0, 1] rfl
        refine va_callr (va_runV (As := [.int (zI (n)), .int (zI (1))]) (rest := []) ⟨hx, hb, hml, hown, hts⟩ (c_X6_bestRowsOf_1n l D t s.heap.size x a R pa n gn hs) (cwV 2 hts gX6_best_X6_bestRowsOf rfl rfl rfl (by decide +kernel) ⟨Nat.le_of_ble_eq_true rfl, Nat.le_of_ble_eq_true rfl⟩) ⟨fun a U g mk q => by obtain ⟨q0, q1, qP, qK, qD⟩ := q; exact ⟨q0, q1, qP, va_K.moved (u := U) (U := U.calling g mk a) (Vm.Alike.refl U.vm) qK, qD⟩, va_recv hK hPc (ci := 5) (q0 := 0) rfl rfl, fun U hU hW => ⟨rfl, by rw [hU], by rw [hU]; exact hPc, va_K.moved hW.alike hK, hDc.weaken (fun _ _ _ _ => trivial)⟩⟩ rfl rfl hl.1 rfl (lv_room (Nat.le_of_ble_eq_true rfl)) dX6_best_55 ⟨Nat.le_of_ble_eq_true rfl, Nat.le_of_ble_eq_true rfl⟩) hS (fun q _ h => hFc q h) hFc (fun u r tq H1 locs ht hvm hr55 hB hz1 hk1 hS => ?_)
        obtain ⟨hP1, hK1, hD1⟩ := hB
        rw [ht] at hP1
        obtain ⟨hP, hD⟩ := va_join (wr := []) (w1 := [oX x a (((R : Nat) : Int)), aQ t 5 (a 5) 15 (va_up pa n (some r)), (r, .inr (2, [.int (zI ((bv n 1).1)), .int (zI ((((bv n 1).2.1 : Nat) : Int))), .int (zI ((((bv n 1).2.2.1 : Nat) : Int))), .int (zI ((((bv n 1).2.2.2 : Nat) : Int)))]))]) hP hD [0, 1] [] rfl rfl (by decide) (by decide) hk1 hFc hP1 hD1
        generalize H1 = H at hP hS ⊢
        have hP : va_P D vwCl [oX x a (((R : Nat) : Int)), aQ t 5 (a 5) 15 (va_up pa n (some r)), (r, .inr (2, [.int (zI ((bv n 1).1)), .int (zI ((((bv n 1).2.1 : Nat) : Int))), .int (zI ((((bv n 1).2.2.1 : Nat) : Int))), .int (zI ((((bv n 1).2.2.2 : Nat) : Int)))]))] H := hP
        have hD : va_D AA [oX x a (((R : Nat) : Int)), aQ t 5 (a 5) 15 (va_up pa n (some r)), (r, .inr (2, [.int (zI ((bv n 1).1)), .int (zI ((((bv n 1).2.1 : Nat) : Int))), .int (zI ((((bv n 1).2.2.1 : Nat) : Int))), .int (zI ((((bv n 1).2.2.2 : Nat) : Int)))]))] := hD
        try dsimp only at hr55
        refine va_get (D := D) (ci := 2) (v := .int (zI ((bv n 1).1))) (C := RX0) (T := TX0) (N := 4) hx hb hts iX0 hown hK hP 2 rfl rfl 0 (by decide) (hts (.fieldLink RX6 183 "CancelRows$BestRows" "value" "I") (by decide +kernel)) (fun _ h9 => h9) rfl dX6_best_58 ?_
        have hP := hP.sub (ws' := [oX x a (((R : Nat) : Int)), aQ t 5 (a 5) 15 (va_up pa n (some (r))), (r, .inr (2, [.int (zI ((bv n 1).1)), .int (zI ((((bv n 1).2.1 : Nat) : Int))), .int (zI ((((bv n 1).2.2.1 : Nat) : Int))), .int (zI ((((bv n 1).2.2.2 : Nat) : Int)))]))]) [0, 1, 2] rfl
        have hD := hD.sub (ws' := [oX x a (((R : Nat) : Int)), aQ t 5 (a 5) 15 (va_up pa n (some (r))), (r, .inr (2, [.int (zI ((bv n 1).1)), .int (zI ((((bv n 1).2.1 : Nat) : Int))), .int (zI ((((bv n 1).2.2.1 : Nat) : Int))), .int (zI ((((bv n 1).2.2.2 : Nat) : Int)))]))]) [0, 1, 2] (by decide) rfl
        exact W.iret (v := (zI ((bv n 1).1))) hx hb hr (fun tq ht hW => ⟨⟨_, (r), rfl, by rw [hw22]; rfl, by rw [ht]; exact hP, va_K.moved hW.alike hK, hD⟩, hS.F ht⟩) hS.2.2 dX6_best_61
      · refine z_tableIn (off := 40) (tgt := 62) hx hb 1 dX6_best_22 (by omega) (by omega) (by omega) rfl (by decide) ?_
        refine lv_aload_n hx hb dX6_best_62 rfl (lv_at hl 0 rfl) ?_
        refine lv_iload_n hx hb dX6_best_63 rfl (lv_at hl 1 rfl) ?_
        refine lv_iload_n hx hb dX6_best_64 rfl (lv_at hl 2 rfl) ?_
        have hPc := hP.sub (ws' := [oX x a (((R : Nat) : Int)), aQ t 5 (a 5) 15 (pa)]) [0, 1] rfl
        have hDc := hD.sub (ws' := [oX x a (((R : Nat) : Int)), aQ t 5 (a 5) 15 (pa)]) [0, 1] (by decide) rfl
        have hFc := va_free (wc := [oX x a (((R : Nat) : Int)), aQ t 5 (a 5) 15 (pa)]) hD hS hA [0, 1] rfl
        refine va_callr (va_runV (As := [.int (zI (n)), .int (zI (1))]) (rest := []) ⟨hx, hb, hml, hown, hts⟩ (c_X6_bestRowsOf_1n l D t s.heap.size x a R pa n gn hs) (cwV 2 hts gX6_best_X6_bestRowsOf rfl rfl rfl (by decide +kernel) ⟨Nat.le_of_ble_eq_true rfl, Nat.le_of_ble_eq_true rfl⟩) ⟨fun a U g mk q => by obtain ⟨q0, q1, qP, qK, qD⟩ := q; exact ⟨q0, q1, qP, va_K.moved (u := U) (U := U.calling g mk a) (Vm.Alike.refl U.vm) qK, qD⟩, va_recv hK hPc (ci := 5) (q0 := 0) rfl rfl, fun U hU hW => ⟨rfl, by rw [hU], by rw [hU]; exact hPc, va_K.moved hW.alike hK, hDc.weaken (fun _ _ _ _ => trivial)⟩⟩ rfl rfl hl.1 rfl (lv_room (Nat.le_of_ble_eq_true rfl)) dX6_best_65 ⟨Nat.le_of_ble_eq_true rfl, Nat.le_of_ble_eq_true rfl⟩) hS (fun q _ h => hFc q h) hFc (fun u r tq H1 locs ht hvm hr65 hB hz1 hk1 hS => ?_)
        obtain ⟨hP1, hK1, hD1⟩ := hB
        rw [ht] at hP1
        obtain ⟨hP, hD⟩ := va_join (wr := []) (w1 := [oX x a (((R : Nat) : Int)), aQ t 5 (a 5) 15 (va_up pa n (some r)), (r, .inr (2, [.int (zI ((bv n 1).1)), .int (zI ((((bv n 1).2.1 : Nat) : Int))), .int (zI ((((bv n 1).2.2.1 : Nat) : Int))), .int (zI ((((bv n 1).2.2.2 : Nat) : Int)))]))]) hP hD [0, 1] [] rfl rfl (by decide) (by decide) hk1 hFc hP1 hD1
        generalize H1 = H at hP hS ⊢
        have hP : va_P D vwCl [oX x a (((R : Nat) : Int)), aQ t 5 (a 5) 15 (va_up pa n (some r)), (r, .inr (2, [.int (zI ((bv n 1).1)), .int (zI ((((bv n 1).2.1 : Nat) : Int))), .int (zI ((((bv n 1).2.2.1 : Nat) : Int))), .int (zI ((((bv n 1).2.2.2 : Nat) : Int)))]))] H := hP
        have hD : va_D AA [oX x a (((R : Nat) : Int)), aQ t 5 (a 5) 15 (va_up pa n (some r)), (r, .inr (2, [.int (zI ((bv n 1).1)), .int (zI ((((bv n 1).2.1 : Nat) : Int))), .int (zI ((((bv n 1).2.2.1 : Nat) : Int))), .int (zI ((((bv n 1).2.2.2 : Nat) : Int)))]))] := hD
        try dsimp only at hr65
        refine va_get (D := D) (ci := 2) (v := .int (zI ((((bv n 1).2.1 : Nat) : Int)))) (C := RX0) (T := TX0) (N := 4) hx hb hts iX0 hown hK hP 2 rfl rfl 1 (by decide) (hts (.fieldLink RX6 186 "CancelRows$BestRows" "leastNumber" "I") (by decide +kernel)) (fun _ h9 => h9) rfl dX6_best_68 ?_
        have hP := hP.sub (ws' := [oX x a (((R : Nat) : Int)), aQ t 5 (a 5) 15 (va_up pa n (some (r))), (r, .inr (2, [.int (zI ((bv n 1).1)), .int (zI ((((bv n 1).2.1 : Nat) : Int))), .int (zI ((((bv n 1).2.2.1 : Nat) : Int))), .int (zI ((((bv n 1).2.2.2 : Nat) : Int)))]))]) [0, 1, 2] rfl
        have hD := hD.sub (ws' := [oX x a (((R : Nat) : Int)), aQ t 5 (a 5) 15 (va_up pa n (some (r))), (r, .inr (2, [.int (zI ((bv n 1).1)), .int (zI ((((bv n 1).2.1 : Nat) : Int))), .int (zI ((((bv n 1).2.2.1 : Nat) : Int))), .int (zI ((((bv n 1).2.2.2 : Nat) : Int)))]))]) [0, 1, 2] (by decide) rfl
        exact W.iret (v := (zI ((((bv n 1).2.1 : Nat) : Int)))) hx hb hr (fun tq ht hW => ⟨⟨_, (r), rfl, by rw [hw22]; rfl, by rw [ht]; exact hP, va_K.moved hW.alike hK, hD⟩, hS.F ht⟩) hS.2.2 dX6_best_71
      · refine z_tableIn (off := 50) (tgt := 72) hx hb 2 dX6_best_22 (by omega) (by omega) (by omega) rfl (by decide) ?_
        refine lv_aload_n hx hb dX6_best_72 rfl (lv_at hl 0 rfl) ?_
        refine lv_iload_n hx hb dX6_best_73 rfl (lv_at hl 1 rfl) ?_
        refine lv_iload_n hx hb dX6_best_74 rfl (lv_at hl 2 rfl) ?_
        have hPc := hP.sub (ws' := [oX x a (((R : Nat) : Int)), aQ t 5 (a 5) 15 (pa)]) [0, 1] rfl
        have hDc := hD.sub (ws' := [oX x a (((R : Nat) : Int)), aQ t 5 (a 5) 15 (pa)]) [0, 1] (by decide) rfl
        have hFc := va_free (wc := [oX x a (((R : Nat) : Int)), aQ t 5 (a 5) 15 (pa)]) hD hS hA [0, 1] rfl
        refine va_callr (va_runV (As := [.int (zI (n)), .int (zI (1))]) (rest := []) ⟨hx, hb, hml, hown, hts⟩ (c_X6_bestRowsOf_1n l D t s.heap.size x a R pa n gn hs) (cwV 2 hts gX6_best_X6_bestRowsOf rfl rfl rfl (by decide +kernel) ⟨Nat.le_of_ble_eq_true rfl, Nat.le_of_ble_eq_true rfl⟩) ⟨fun a U g mk q => by obtain ⟨q0, q1, qP, qK, qD⟩ := q; exact ⟨q0, q1, qP, va_K.moved (u := U) (U := U.calling g mk a) (Vm.Alike.refl U.vm) qK, qD⟩, va_recv hK hPc (ci := 5) (q0 := 0) rfl rfl, fun U hU hW => ⟨rfl, by rw [hU], by rw [hU]; exact hPc, va_K.moved hW.alike hK, hDc.weaken (fun _ _ _ _ => trivial)⟩⟩ rfl rfl hl.1 rfl (lv_room (Nat.le_of_ble_eq_true rfl)) dX6_best_75 ⟨Nat.le_of_ble_eq_true rfl, Nat.le_of_ble_eq_true rfl⟩) hS (fun q _ h => hFc q h) hFc (fun u r tq H1 locs ht hvm hr75 hB hz1 hk1 hS => ?_)
        obtain ⟨hP1, hK1, hD1⟩ := hB
        rw [ht] at hP1
        obtain ⟨hP, hD⟩ := va_join (wr := []) (w1 := [oX x a (((R : Nat) : Int)), aQ t 5 (a 5) 15 (va_up pa n (some r)), (r, .inr (2, [.int (zI ((bv n 1).1)), .int (zI ((((bv n 1).2.1 : Nat) : Int))), .int (zI ((((bv n 1).2.2.1 : Nat) : Int))), .int (zI ((((bv n 1).2.2.2 : Nat) : Int)))]))]) hP hD [0, 1] [] rfl rfl (by decide) (by decide) hk1 hFc hP1 hD1
        generalize H1 = H at hP hS ⊢
        have hP : va_P D vwCl [oX x a (((R : Nat) : Int)), aQ t 5 (a 5) 15 (va_up pa n (some r)), (r, .inr (2, [.int (zI ((bv n 1).1)), .int (zI ((((bv n 1).2.1 : Nat) : Int))), .int (zI ((((bv n 1).2.2.1 : Nat) : Int))), .int (zI ((((bv n 1).2.2.2 : Nat) : Int)))]))] H := hP
        have hD : va_D AA [oX x a (((R : Nat) : Int)), aQ t 5 (a 5) 15 (va_up pa n (some r)), (r, .inr (2, [.int (zI ((bv n 1).1)), .int (zI ((((bv n 1).2.1 : Nat) : Int))), .int (zI ((((bv n 1).2.2.1 : Nat) : Int))), .int (zI ((((bv n 1).2.2.2 : Nat) : Int)))]))] := hD
        try dsimp only at hr75
        refine va_get (D := D) (ci := 2) (v := .int (zI ((((bv n 1).2.2.1 : Nat) : Int)))) (C := RX0) (T := TX0) (N := 4) hx hb hts iX0 hown hK hP 2 rfl rfl 2 (by decide) (hts (.fieldLink RX6 189 "CancelRows$BestRows" "many" "I") (by decide +kernel)) (fun _ h9 => h9) rfl dX6_best_78 ?_
        have hP := hP.sub (ws' := [oX x a (((R : Nat) : Int)), aQ t 5 (a 5) 15 (va_up pa n (some (r))), (r, .inr (2, [.int (zI ((bv n 1).1)), .int (zI ((((bv n 1).2.1 : Nat) : Int))), .int (zI ((((bv n 1).2.2.1 : Nat) : Int))), .int (zI ((((bv n 1).2.2.2 : Nat) : Int)))]))]) [0, 1, 2] rfl
        have hD := hD.sub (ws' := [oX x a (((R : Nat) : Int)), aQ t 5 (a 5) 15 (va_up pa n (some (r))), (r, .inr (2, [.int (zI ((bv n 1).1)), .int (zI ((((bv n 1).2.1 : Nat) : Int))), .int (zI ((((bv n 1).2.2.1 : Nat) : Int))), .int (zI ((((bv n 1).2.2.2 : Nat) : Int)))]))]) [0, 1, 2] (by decide) rfl
        exact W.iret (v := (zI ((((bv n 1).2.2.1 : Nat) : Int)))) hx hb hr (fun tq ht hW => ⟨⟨_, (r), rfl, by rw [hw22]; rfl, by rw [ht]; exact hP, va_K.moved hW.alike hK, hD⟩, hS.F ht⟩) hS.2.2 dX6_best_81
      · refine z_tableIn (off := 60) (tgt := 82) hx hb 3 dX6_best_22 (by omega) (by omega) (by omega) rfl (by decide) ?_
        refine lv_aload_n hx hb dX6_best_82 rfl (lv_at hl 0 rfl) ?_
        refine lv_iload_n hx hb dX6_best_83 rfl (lv_at hl 1 rfl) ?_
        refine lv_iload_n hx hb dX6_best_84 rfl (lv_at hl 2 rfl) ?_
        have hPc := hP.sub (ws' := [oX x a (((R : Nat) : Int)), aQ t 5 (a 5) 15 (pa)]) [0, 1] rfl
        have hDc := hD.sub (ws' := [oX x a (((R : Nat) : Int)), aQ t 5 (a 5) 15 (pa)]) [0, 1] (by decide) rfl
        have hFc := va_free (wc := [oX x a (((R : Nat) : Int)), aQ t 5 (a 5) 15 (pa)]) hD hS hA [0, 1] rfl
        refine va_callr (va_runV (As := [.int (zI (n)), .int (zI (1))]) (rest := []) ⟨hx, hb, hml, hown, hts⟩ (c_X6_bestRowsOf_1n l D t s.heap.size x a R pa n gn hs) (cwV 2 hts gX6_best_X6_bestRowsOf rfl rfl rfl (by decide +kernel) ⟨Nat.le_of_ble_eq_true rfl, Nat.le_of_ble_eq_true rfl⟩) ⟨fun a U g mk q => by obtain ⟨q0, q1, qP, qK, qD⟩ := q; exact ⟨q0, q1, qP, va_K.moved (u := U) (U := U.calling g mk a) (Vm.Alike.refl U.vm) qK, qD⟩, va_recv hK hPc (ci := 5) (q0 := 0) rfl rfl, fun U hU hW => ⟨rfl, by rw [hU], by rw [hU]; exact hPc, va_K.moved hW.alike hK, hDc.weaken (fun _ _ _ _ => trivial)⟩⟩ rfl rfl hl.1 rfl (lv_room (Nat.le_of_ble_eq_true rfl)) dX6_best_85 ⟨Nat.le_of_ble_eq_true rfl, Nat.le_of_ble_eq_true rfl⟩) hS (fun q _ h => hFc q h) hFc (fun u r tq H1 locs ht hvm hr85 hB hz1 hk1 hS => ?_)
        obtain ⟨hP1, hK1, hD1⟩ := hB
        rw [ht] at hP1
        obtain ⟨hP, hD⟩ := va_join (wr := []) (w1 := [oX x a (((R : Nat) : Int)), aQ t 5 (a 5) 15 (va_up pa n (some r)), (r, .inr (2, [.int (zI ((bv n 1).1)), .int (zI ((((bv n 1).2.1 : Nat) : Int))), .int (zI ((((bv n 1).2.2.1 : Nat) : Int))), .int (zI ((((bv n 1).2.2.2 : Nat) : Int)))]))]) hP hD [0, 1] [] rfl rfl (by decide) (by decide) hk1 hFc hP1 hD1
        generalize H1 = H at hP hS ⊢
        have hP : va_P D vwCl [oX x a (((R : Nat) : Int)), aQ t 5 (a 5) 15 (va_up pa n (some r)), (r, .inr (2, [.int (zI ((bv n 1).1)), .int (zI ((((bv n 1).2.1 : Nat) : Int))), .int (zI ((((bv n 1).2.2.1 : Nat) : Int))), .int (zI ((((bv n 1).2.2.2 : Nat) : Int)))]))] H := hP
        have hD : va_D AA [oX x a (((R : Nat) : Int)), aQ t 5 (a 5) 15 (va_up pa n (some r)), (r, .inr (2, [.int (zI ((bv n 1).1)), .int (zI ((((bv n 1).2.1 : Nat) : Int))), .int (zI ((((bv n 1).2.2.1 : Nat) : Int))), .int (zI ((((bv n 1).2.2.2 : Nat) : Int)))]))] := hD
        try dsimp only at hr85
        refine va_get (D := D) (ci := 2) (v := .int (zI ((((bv n 1).2.2.2 : Nat) : Int)))) (C := RX0) (T := TX0) (N := 4) hx hb hts iX0 hown hK hP 2 rfl rfl 3 (by decide) (hts (.fieldLink RX6 190 "CancelRows$BestRows" "kinds" "I") (by decide +kernel)) (fun _ h9 => h9) rfl dX6_best_88 ?_
        have hP := hP.sub (ws' := [oX x a (((R : Nat) : Int)), aQ t 5 (a 5) 15 (va_up pa n (some (r))), (r, .inr (2, [.int (zI ((bv n 1).1)), .int (zI ((((bv n 1).2.1 : Nat) : Int))), .int (zI ((((bv n 1).2.2.1 : Nat) : Int))), .int (zI ((((bv n 1).2.2.2 : Nat) : Int)))]))]) [0, 1, 2] rfl
        have hD := hD.sub (ws' := [oX x a (((R : Nat) : Int)), aQ t 5 (a 5) 15 (va_up pa n (some (r))), (r, .inr (2, [.int (zI ((bv n 1).1)), .int (zI ((((bv n 1).2.1 : Nat) : Int))), .int (zI ((((bv n 1).2.2.1 : Nat) : Int))), .int (zI ((((bv n 1).2.2.2 : Nat) : Int)))]))]) [0, 1, 2] (by decide) rfl
        exact W.iret (v := (zI ((((bv n 1).2.2.2 : Nat) : Int)))) hx hb hr (fun tq ht hW => ⟨⟨_, (r), rfl, by rw [hw22]; rfl, by rw [ht]; exact hP, va_K.moved hW.alike hK, hD⟩, hS.F ht⟩) hS.2.2 dX6_best_91
      · refine z_tableOut (tgt := 92) hx hb dX6_best_22 (by omega) (by omega) (by decide) ?_
        omega
    · exact absurd (by decide) c16

-- the check: search, way 0
set_option maxHeartbeats 4000000 in
set_option maxRecDepth 100000 in
theorem c_X7_search_0 (l : Launch) (D : va_G) (t : Nat → ClassId) (sz : Nat) (y : Nat) (b : Nat → Nat) (R : Nat) (fm1 kn pm0 lm : Int) (fd0 : Nat → Nat) (Fo Be : Nat → Int) (n : Nat) (gn : 1 ≤ n ∧ n ≤ 14) : Met l yX7_search wsX7_search ({ frames := 3, cells := 0, slots := 0, locals := 81 }) (va_Pc [.ref y, .int (zI (n)), .int (zI (0))] (fun U => U.heap.size = sz ∧ va_P D vwCl ([oM y b (((R : Nat) : Int)) (fm1) (kn) (pm0) (lm), aJ t (b 5) 16 (fd0), aZ t (b 9) 30 (Fo), aI t (b 10) 120 (Be)]) U.heap ∧ va_K D vwCl (TY t) U ∧ va_D (fun _ => True) ([oM y b (((R : Nat) : Int)) (fm1) (kn) (pm0) (lm), aJ t (b 5) 16 (fd0), aZ t (b 9) 30 (Fo), aI t (b 10) 120 (Be)]))) (va_Qv (fun (u : Int × (Nat → Nat)) => True) (fun (u : Int × (Nat → Nat)) t1 => va_P D vwCl ([oM y b (((R : Nat) : Int)) (u.1) (kn) (pm0) (lm), aJ t (b 5) 16 (u.2), aZ t (b 9) 30 (va_up Fo (2 * n + 0) 1), aI t (b 10) 120 (brw Be (4 * (2 * n + 0)) (bv n 0))]) t1.heap ∧ va_K D vwCl (TY t) t1 ∧ va_D (va_A ([oM y b (((R : Nat) : Int)) (fm1) (kn) (pm0) (lm), aJ t (b 5) 16 (fd0), aZ t (b 9) 30 (Fo), aI t (b 10) 120 (Be)]) sz) ([oM y b (((R : Nat) : Int)) (u.1) (kn) (pm0) (lm), aJ t (b 5) 16 (u.2), aZ t (b 9) 30 (va_up Fo (2 * n + 0) 1), aI t (b 10) 120 (brw Be (4 * (2 * n + 0)) (bv n 0))])) (va_A ([oM y b (((R : Nat) : Int)) (fm1) (kn) (pm0) (lm), aJ t (b 5) 16 (fd0), aZ t (b 9) 30 (Fo), aI t (b 10) 120 (Be)]) sz)) 0 0 (va_A ([oM y b (((R : Nat) : Int)) (fm1) (kn) (pm0) (lm), aJ t (b 5) 16 (fd0), aZ t (b 9) 30 (Fo), aI t (b 10) 120 (Be)]) sz) := by
  refine Met.ofW (cc := cX7_search) (maxL := 7) (ret := none) (by decide) rfl ?_
  intro p e s m args below meth c s₁ B hml hv
  obtain ⟨rfl, hsz, hP, hK, hD0⟩ := hv
  have hx := B.exec
  have hb := B.bytes
  have hr := B.returns
  have hts := atoms_spec (ws := wsX7_search) B.pre
  have hown : s.vm.findClass RX7 = some m.cls := findClass_of_methodNamed B.named
  have hlocks := B.notSynchronized
  subst hsz
  have hD := hD0.self (sz := s.heap.size)
  generalize hAe : va_A ([oM y b (((R : Nat) : Int)) (fm1) (kn) (pm0) (lm), aJ t (b 5) 16 (fd0), aZ t (b 9) 30 (Fo), aI t (b 10) 120 (Be)]) s.heap.size = AA at hD ⊢
  have hA : ∀ q : Nat, s.heap.size ≤ q → AA q := fun q h => by rw [← hAe]; exact Or.inr h
  have hS : va_S AA s.heap s.heap [] := va_S.rf
  have hP : va_P D vwCl ([oM y b (((R : Nat) : Int)) (fm1) (kn) (pm0) (lm), aJ t (b 5) 16 (fd0), aZ t (b 9) 30 (Fo), aI t (b 10) 120 (Be)]) s.heap := hP
  have hl := lv_entry ([.ref y, .int (zI (n)), .int (zI (0))]) (n := 7) (Nat.le_of_ble_eq_true rfl)
  rw [lg_entry_eq]
  generalize (lg_sl ([.ref y, .int (zI (n)), .int (zI (0))]) ++ List.replicate (7 - (lg_sl ([.ref y, .int (zI (n)), .int (zI (0))])).length) Slot.unset).toArray = ls at hl ⊢
  have hl : lv_has ls 7 [(0, .ref y), (1, .int (zI (n))), (2, .int (zI (0)))] := hl
  have iX7 : ∀ w ∈ u_ws RX7 TX7 16, w ∈ wsX7_search := by decide +kernel
  have b0 := n14 gn
  refine lv_iconst (v := zI 4) hx hb dX7_search_0 rfl ?_
  refine lv_iconst (v := zI 2) hx hb dX7_search_1 rfl ?_
  refine lv_iload_n hx hb dX7_search_2 rfl (lv_at hl 1 rfl) ?_
  refine z_imul hx hb dX7_search_3 ?_
  refine z_re (e2 := ((2 * n : Nat) : Int)) (by omega) ?_
  refine lv_iload_n hx hb dX7_search_4 rfl (lv_at hl 2 rfl) ?_
  refine z_iadd hx hb dX7_search_5 ?_
  refine z_re (e2 := ((2 * n + 0 : Nat) : Int)) (by omega) ?_
  refine z_imul hx hb dX7_search_6 ?_
  refine z_re (e2 := (((4 * (2 * n + 0)) : Nat) : Int)) (by omega) ?_
  refine lv_istore_n (lv' := [(3, .int (zI ((((4 * (2 * n + 0)) : Nat) : Int)))), (0, .ref y), (1, .int (zI (n))), (2, .int (zI (0)))]) hx hb dX7_search_7 rfl hl (by decide) rfl (fun ls hl => ?_)
  refine lv_aload_n hx hb dX7_search_8 rfl (lv_at hl 1 rfl) ?_
  refine va_get (D := D) (ci := 6) (v := .ref (b 9)) (C := RX7) (T := TX7) (N := 16) hx hb hts iX7 hown hK hP 0 rfl rfl 14 (by decide) (hts (.fieldLink RX7 42 "CancelRowsModel" "isFound" "[Z") (by decide +kernel)) (fun _ h9 => h9) rfl dX7_search_9 ?_
  refine lv_iconst (v := zI 2) hx hb dX7_search_12 rfl ?_
  refine lv_iload_n hx hb dX7_search_13 rfl (lv_at hl 2 rfl) ?_
  refine z_imul hx hb dX7_search_14 ?_
  refine z_re (e2 := ((2 * n : Nat) : Int)) (by omega) ?_
  refine lv_iload_n hx hb dX7_search_15 rfl (lv_at hl 3 rfl) ?_
  refine z_iadd hx hb dX7_search_16 ?_
  refine z_re (e2 := ((2 * n + 0 : Nat) : Int)) (by omega) ?_
  refine lv_iconst (v := zI 1) hx hb dX7_search_17 rfl ?_
  refine z_zast hx hb hK hP hD hS 2 2 rfl rfl (2 * n + 0) (by omega) (by omega) (by omega) (by decide +kernel) dX7_search_18 (fun H locs hP hD hS => ?_)
  have hP : va_P D vwCl [oM y b (((R : Nat) : Int)) (fm1) (kn) (pm0) (lm), aJ t (b 5) 16 (fd0), aZ t (b 9) 30 (va_up (Fo) (2 * n + 0) (1)), aI t (b 10) 120 (Be)] H := hP
  have hD : va_D AA [oM y b (((R : Nat) : Int)) (fm1) (kn) (pm0) (lm), aJ t (b 5) 16 (fd0), aZ t (b 9) 30 (va_up (Fo) (2 * n + 0) (1)), aI t (b 10) 120 (Be)] := hD
  refine lv_ldc (v := zI 1000000) hx hb hown (hts (.constant RX7 156 (zI 1000000)) (by decide +kernel)) dX7_search_19 ?_
  refine z_re (e2 := 1000000) (rfl) ?_
  refine lv_istore (lv' := [(4, .int (zI (1000000))), (3, .int (zI ((((4 * (2 * n + 0)) : Nat) : Int)))), (0, .ref y), (1, .int (zI (n))), (2, .int (zI (0)))]) hx hb dX7_search_21 hl (by decide) rfl (fun ls hl => ?_)
  refine lv_iconst (v := zI 0) hx hb dX7_search_23 rfl ?_
  refine z_re (e2 := ((0 : Nat) : Int)) (rfl) ?_
  refine lv_istore (lv' := [(5, .int (zI (((0 : Nat) : Int)))), (4, .int (zI (1000000))), (3, .int (zI ((((4 * (2 * n + 0)) : Nat) : Int)))), (0, .ref y), (1, .int (zI (n))), (2, .int (zI (0)))]) hx hb dX7_search_24 hl (by decide) rfl (fun ls hl => ?_)
  have lp26 : ∀ (NN : Nat) (xx : Nat) (v : Int) (l0 : Nat) (mm : Nat) (kd : Nat) (fm2 : Int) (fd : Nat → Nat) (C : Nat → Int) (q1 : xx ≤ 2 ^ n) (q2 : bs (fm n 0) (gm n) 1 xx = (v, l0, mm, kd)) (q3 : 0 ≤ v ∧ v ≤ 1000000) (q4 : l0 ≤ xx ∧ mm ≤ xx ∧ kd ≤ xx) (q5 : C = if xx = 0 then Be else brw Be (4 * (2 * n + 0)) (v, l0, mm, kd)) (q6 : xx = 0 → v = 1000000), 2 ^ n - xx < NN → ∀ (H : Heap) (locs : List Loc), va_P D vwCl [oM y b (((R : Nat) : Int)) (fm2) (kn) (pm0) (lm), aJ t (b 5) 16 (fd), aZ t (b 9) 30 (va_up Fo (2 * n + 0) 1), aI t (b 10) 120 (C)] H → va_D AA [oM y b (((R : Nat) : Int)) (fm2) (kn) (pm0) (lm), aJ t (b 5) 16 (fd), aZ t (b 9) 30 (va_up Fo (2 * n + 0) 1), aI t (b 10) 120 (C)] → va_S AA s.heap H locs → ∀ (ls : Array Slot), lv_has ls 7 [(0, .ref y), (1, .int (zI (n))), (2, .int (zI (0))), (3, .int (zI ((((4 * (2 * n + 0)) : Nat) : Int)))), (4, .int (zI (v))), (5, .int (zI (((xx : Nat) : Int))))] → W p l e (headSpec wsX7_search ({ frames := 3, cells := 0, slots := 0, locals := 81 })).room s m ([.ref y, .int (zI (n)), .int (zI (0))] : List Value).toArray below meth c H locs 0 0 (MQ below (va_Qv (fun (u : Int × (Nat → Nat)) => True) (fun (u : Int × (Nat → Nat)) t1 => va_P D vwCl ([oM y b (((R : Nat) : Int)) (u.1) (kn) (pm0) (lm), aJ t (b 5) 16 (u.2), aZ t (b 9) 30 (va_up Fo (2 * n + 0) 1), aI t (b 10) 120 (brw Be (4 * (2 * n + 0)) (bv n 0))]) t1.heap ∧ va_K D vwCl (TY t) t1 ∧ va_D (AA) ([oM y b (((R : Nat) : Int)) (u.1) (kn) (pm0) (lm), aJ t (b 5) 16 (u.2), aZ t (b 9) 30 (va_up Fo (2 * n + 0) 1), aI t (b 10) 120 (brw Be (4 * (2 * n + 0)) (bv n 0))])) (AA)) ([.ref y, .int (zI (n)), .int (zI (0))] : List Value).toArray s 0 0 (AA)) (F0 m 26 ls []) := by
    intro NN
    induction NN with
    | zero =>
      intro xx v l0 mm kd fm2 fd C q1 q2 q3 q4 q5 q6 hmu
      exact absurd hmu (Nat.not_lt_zero _)
    | succ NN ih26 =>
      intro xx v l0 mm kd fm2 fd C q1 q2 q3 q4 q5 q6 hmu H locs hP hD hS ls hl
      have b1 := fm_bd gn.2 0 xx
      refine lv_iload hx hb dX7_search_26 (lv_at hl 5 rfl) ?_
      refine lv_iconst (v := zI 1) hx hb dX7_search_28 rfl ?_
      refine lv_iload_n hx hb dX7_search_29 rfl (lv_at hl 1 rfl) ?_
      refine z_ishl hx hb (q := n) (by omega) dX7_search_30 ?_
      refine z_re (e2 := ((2 ^ n : Nat) : Int)) (by rw [Int.one_mul]; exact (Int.natCast_pow 2 n).symm) ?_
      refine z_icmp_ge (tgt := 160) hx hb dX7_search_31 (by decide) (by omega) (by omega) (fun c31 => ?_) (fun c31 => ?_)
      · have hq : xx = 2 ^ n := by omega
        obtain rfl : C = brw Be (4 * (2 * n + 0)) (bv n 0) := by rw [q5, if_neg (by omega), ← q2, hq]
        exact W.vret hx hb hr (fun tq ht hW => ⟨⟨(fm2, fd), rfl, trivial, by rw [ht]; exact hP, va_K.moved hW.alike hK, hD⟩, hS.F ht⟩) hS.2.2 dX7_search_160
      · refine lv_iload_n hx hb dX7_search_34 rfl (lv_at hl 2 rfl) ?_
        refine z_if_ne (tgt := 48) hx hb dX7_search_35 (by decide) (by omega) (fun c35 => ?_) (fun c35 => ?_)
        · exact absurd rfl c35
        · refine lv_iload_n hx hb dX7_search_38 rfl (lv_at hl 1 rfl) ?_
          refine lv_iload hx hb dX7_search_39 (lv_at hl 5 rfl) ?_
          refine n_i2l (a := xx) hx hb (by omega) dX7_search_41 ?_
          refine vp_callSi (va_runS (As := [.int (zI (n)), .long (lN (xx))]) (rest := []) ⟨hx, hb, hml, hown, hts⟩ (c_X7_peakOf l n xx (by omega) gn.1 (by omega)) (va_cwS 2 hts gX7_search_X7_peakOf rfl rfl rfl (by decide +kernel) ⟨Nat.le_of_ble_eq_true rfl, Nat.le_of_ble_eq_true rfl⟩) ⟨fun a U g mk q => q, fun U hU hW => ⟨rfl, trivial⟩⟩ rfl rfl hl.1 rfl (lv_room (Nat.le_of_ble_eq_true rfl)) dX7_search_42 ⟨Nat.le_of_ble_eq_true rfl, Nat.le_of_ble_eq_true rfl⟩).run (fun r hr42 => ?_)
          obtain rfl := hr42
          refine z_re (e2 := fm n 0 xx) (by rw [fm, if_pos rfl]) ?_
          refine lv_goto (tgt := 55) hx hb dX7_search_45 (by decide) ?_
          refine lv_istore (lv' := [(6, .int (zI (fm n 0 xx))), (0, .ref y), (1, .int (zI (n))), (2, .int (zI (0))), (3, .int (zI ((((4 * (2 * n + 0)) : Nat) : Int)))), (4, .int (zI (v))), (5, .int (zI (((xx : Nat) : Int))))]) hx hb dX7_search_55 hl (by decide) rfl (fun ls hl => ?_)
          refine lv_iload hx hb dX7_search_57 (lv_at hl 0 rfl) ?_
          refine lv_iload hx hb dX7_search_59 (lv_at hl 5 rfl) ?_
          refine z_icmp_ge (tgt := 104) hx hb dX7_search_61 (by decide) (by omega) (by omega) (fun c61 => ?_) (fun c61 => ?_)
          · refine lv_iload hx hb dX7_search_104 (lv_at hl 0 rfl) ?_
            refine lv_iload hx hb dX7_search_106 (lv_at hl 5 rfl) ?_
            refine z_icmp_ne (tgt := 154) hx hb dX7_search_108 (by decide) (by omega) (by omega) (fun c108 => ?_) (fun c108 => ?_)
            · refine lv_iinc (v := zI (((xx + 1 : Nat) : Int))) (lv' := [(5, .int (zI (((xx + 1 : Nat) : Int)))), (6, .int (zI (fm n 0 xx))), (0, .ref y), (1, .int (zI (n))), (2, .int (zI (0))), (3, .int (zI ((((4 * (2 * n + 0)) : Nat) : Int)))), (4, .int (zI (v)))]) hx hb dX7_search_154 hl (k := 6) rfl (zI_incr (by omega)) (by decide) rfl (fun ls hl => ?_)
              refine lv_goto (tgt := 26) hx hb dX7_search_157 (by decide) ?_
              exact ih26 (xx + 1) (v) (l0) (mm) (kd) (fm2) (fd) (C) (by omega) (by rw [bs_gt (by rw [q2]; show v < _; omega)]; exact q2) (by omega) (by omega) (by rw [if_neg (by omega), q5, if_neg (by omega)]) (by omega) (by omega) _ _ hP hD hS _ (lv_sub hl [2, 3, 4, 5, 6, 0] rfl)
            · refine lv_aload_n hx hb dX7_search_111 rfl (lv_at hl 1 rfl) ?_
              refine va_get (D := D) (ci := 6) (v := .ref (b 10)) (C := RX7) (T := TX7) (N := 16) hx hb hts iX7 hown hK hP 0 rfl rfl 15 (by decide) (hts (.fieldLink RX7 46 "CancelRowsModel" "bestRow" "[I") (by decide +kernel)) (fun _ h9 => h9) rfl dX7_search_112 ?_
              refine lv_iload_n hx hb dX7_search_115 rfl (lv_at hl 4 rfl) ?_
              refine lv_iconst (v := zI 2) hx hb dX7_search_116 rfl ?_
              refine z_iadd hx hb dX7_search_117 ?_
              refine z_re (e2 := (((4 * (2 * n + 0)) + 2 : Nat) : Int)) (by omega) ?_
              refine lv_dup2_11 hx hb dX7_search_118 rfl rfl ?_
              refine z_iald hx hb hK hP 3 0 rfl rfl ((4 * (2 * n + 0)) + 2) (by omega) (by omega) (by omega) dX7_search_119 ?_
              refine z_re (e2 := ((mm : Nat) : Int)) (by rw [q5, if_neg (by omega)]; exact (brw_at _ _ _).2.2.1) ?_
              refine lv_iconst (v := zI 1) hx hb dX7_search_120 rfl ?_
              refine z_iadd hx hb dX7_search_121 ?_
              refine z_re (e2 := ((mm + 1 : Nat) : Int)) (by omega) ?_
              refine z_iast hx hb hK hP hD hS 3 0 rfl rfl ((4 * (2 * n + 0)) + 2) (by omega) (by omega) (by omega) dX7_search_122 (fun H locs hP hD hS => ?_)
              have hP : va_P D vwCl [oM y b (((R : Nat) : Int)) (fm2) (kn) (pm0) (lm), aJ t (b 5) 16 (fd), aZ t (b 9) 30 (va_up Fo (2 * n + 0) 1), aI t (b 10) 120 (va_up (C) ((4 * (2 * n + 0)) + 2) (((mm + 1 : Nat) : Int)))] H := hP
              have hD : va_D AA [oM y b (((R : Nat) : Int)) (fm2) (kn) (pm0) (lm), aJ t (b 5) 16 (fd), aZ t (b 9) 30 (va_up Fo (2 * n + 0) 1), aI t (b 10) 120 (va_up (C) ((4 * (2 * n + 0)) + 2) (((mm + 1 : Nat) : Int)))] := hD
              refine lv_aload_n hx hb dX7_search_123 rfl (lv_at hl 1 rfl) ?_
              refine va_get (D := D) (ci := 6) (v := .ref (b 10)) (C := RX7) (T := TX7) (N := 16) hx hb hts iX7 hown hK hP 0 rfl rfl 15 (by decide) (hts (.fieldLink RX7 46 "CancelRowsModel" "bestRow" "[I") (by decide +kernel)) (fun _ h9 => h9) rfl dX7_search_124 ?_
              refine lv_iload_n hx hb dX7_search_127 rfl (lv_at hl 4 rfl) ?_
              refine lv_iconst (v := zI 3) hx hb dX7_search_128 rfl ?_
              refine z_iadd hx hb dX7_search_129 ?_
              refine z_re (e2 := (((4 * (2 * n + 0)) + 3 : Nat) : Int)) (by omega) ?_
              refine lv_dup2_11 hx hb dX7_search_130 rfl rfl ?_
              refine z_iald hx hb hK hP 3 0 rfl rfl ((4 * (2 * n + 0)) + 3) (by omega) (by omega) (by omega) dX7_search_131 ?_
              refine z_re (e2 := ((kd : Nat) : Int)) (by rw [q5, if_neg (by omega), show va_up (brw Be (4 * (2 * n + 0)) (v, l0, mm, kd)) ((4 * (2 * n + 0)) + 2) ((mm + 1 : Nat) : Int) ((4 * (2 * n + 0)) + 3) = brw Be (4 * (2 * n + 0)) (v, l0, mm, kd) ((4 * (2 * n + 0)) + 3) from if_neg (by omega)]; exact (brw_at _ _ _).2.2.2) ?_
              refine lv_aload_n hx hb dX7_search_132 rfl (lv_at hl 1 rfl) ?_
              refine lv_iload_n hx hb dX7_search_133 rfl (lv_at hl 2 rfl) ?_
              refine lv_iload hx hb dX7_search_134 (lv_at hl 6 rfl) ?_
              refine n_i2l (a := xx) hx hb (by omega) dX7_search_136 ?_
              have hPc := hP.sub (ws' := [oM y b (((R : Nat) : Int)) (fm2) (kn) (pm0) (lm), aJ t (b 5) 16 (fd)]) [0, 1] rfl
              have hDc := hD.sub (ws' := [oM y b (((R : Nat) : Int)) (fm2) (kn) (pm0) (lm), aJ t (b 5) 16 (fd)]) [0, 1] (by decide) rfl
              have hFc := va_free (wc := [oM y b (((R : Nat) : Int)) (fm2) (kn) (pm0) (lm), aJ t (b 5) 16 (fd)]) hD hS hA [0, 1] rfl
              refine va_calll (va_runV (As := [.int (zI (n)), .long (lN (xx))]) (rest := [.int (zI (((kd : Nat) : Int))), .int (zI ((((4 * (2 * n + 0)) + 3 : Nat) : Int))), .ref (b 10)]) ⟨hx, hb, hml, hown, hts⟩ (c_X7_turns l D t H.size y b R fm2 kn pm0 lm fd n xx (by omega) (by omega)) (cwV 2 hts gX7_search_X7_turns rfl rfl rfl (by decide +kernel) ⟨Nat.le_of_ble_eq_true rfl, Nat.le_of_ble_eq_true rfl⟩) ⟨fun a U g mk q => by obtain ⟨q0, q1, qP, qK, qD⟩ := q; exact ⟨q0, q1, qP, va_K.moved (u := U) (U := U.calling g mk a) (Vm.Alike.refl U.vm) qK, qD⟩, va_recv hK hPc (ci := 6) (q0 := 0) rfl rfl, fun U hU hW => ⟨rfl, by rw [hU], by rw [hU]; exact hPc, va_K.moved hW.alike hK, hDc.weaken (fun _ _ _ _ => trivial)⟩⟩ rfl rfl hl.1 rfl (lv_room (Nat.le_of_ble_eq_true rfl)) dX7_search_137 ⟨Nat.le_of_ble_eq_true rfl, Nat.le_of_ble_eq_true rfl⟩) hS (fun q _ h => hFc q h) hFc (fun r u tq H1 locs ht hvm hr137 hB hz1 hk1 hS => ?_)
              obtain ⟨fm3, fd3⟩ := u
              obtain ⟨hP1, hK1, hD1⟩ := hB
              rw [ht] at hP1
              obtain ⟨hP, hD⟩ := va_join (wr := [aZ t (b 9) 30 (va_up Fo (2 * n + 0) 1), aI t (b 10) 120 (va_up (C) ((4 * (2 * n + 0)) + 2) (((mm + 1 : Nat) : Int)))]) (w1 := [oM y b (((R : Nat) : Int)) (((fm3 : Nat) : Int)) (kn) (pm0) (lm), aJ t (b 5) 16 (fd3)]) hP hD [0, 1] [2, 3] rfl rfl (by decide) (by decide) hk1 hFc hP1 hD1
              generalize H1 = H at hP hS ⊢
              have hP : va_P D vwCl [aZ t (b 9) 30 (va_up Fo (2 * n + 0) 1), aI t (b 10) 120 (va_up (C) ((4 * (2 * n + 0)) + 2) (((mm + 1 : Nat) : Int))), oM y b (((R : Nat) : Int)) (((fm3 : Nat) : Int)) (kn) (pm0) (lm), aJ t (b 5) 16 (fd3)] H := hP
              have hD : va_D AA [aZ t (b 9) 30 (va_up Fo (2 * n + 0) 1), aI t (b 10) 120 (va_up (C) ((4 * (2 * n + 0)) + 2) (((mm + 1 : Nat) : Int))), oM y b (((R : Nat) : Int)) (((fm3 : Nat) : Int)) (kn) (pm0) (lm), aJ t (b 5) 16 (fd3)] := hD
              obtain ⟨rfl, hc3⟩ := hr137
              have b2 := ltw_lt (show xx < 2 ^ n by omega) 8
              refine lv_iload hx hb dX7_search_140 (lv_at hl 6 rfl) ?_
              refine n_i2l (a := xx) hx hb (by omega) dX7_search_142 ?_
              refine z_lcmp_ne (a := ((ltw n xx 8 : Nat) : Int)) (b := ((xx : Nat) : Int)) (tgt := 151) hx hb dX7_search_143 dX7_search_144 (by decide) (lN_toI (n := ltw n xx 8) (by omega)) (lN_toI (n := xx) (by omega)) (fun c143 => ?_) (fun c143 => ?_)
              · refine lv_iconst (v := zI 0) hx hb dX7_search_151 rfl ?_
                refine z_re (e2 := ((0 : Nat) : Int)) (rfl) ?_
                refine z_iadd hx hb dX7_search_152 ?_
                refine z_re (e2 := ((kd + 0 : Nat) : Int)) (by omega) ?_
                refine z_iast hx hb hK hP hD hS 1 0 rfl rfl ((4 * (2 * n + 0)) + 3) (by omega) (by omega) (by omega) dX7_search_153 (fun H locs hP hD hS => ?_)
                have hP : va_P D vwCl [aZ t (b 9) 30 (va_up Fo (2 * n + 0) 1), aI t (b 10) 120 (va_up (va_up (C) ((4 * (2 * n + 0)) + 2) (((mm + 1 : Nat) : Int))) ((4 * (2 * n + 0)) + 3) (((kd + 0 : Nat) : Int))), oM y b (((R : Nat) : Int)) (((fm3 : Nat) : Int)) (kn) (pm0) (lm), aJ t (b 5) 16 (fd3)] H := hP
                have hD : va_D AA [aZ t (b 9) 30 (va_up Fo (2 * n + 0) 1), aI t (b 10) 120 (va_up (va_up (C) ((4 * (2 * n + 0)) + 2) (((mm + 1 : Nat) : Int))) ((4 * (2 * n + 0)) + 3) (((kd + 0 : Nat) : Int))), oM y b (((R : Nat) : Int)) (((fm3 : Nat) : Int)) (kn) (pm0) (lm), aJ t (b 5) 16 (fd3)] := hD
                refine lv_iinc (v := zI (((xx + 1 : Nat) : Int))) (lv' := [(5, .int (zI (((xx + 1 : Nat) : Int)))), (6, .int (zI (fm n 0 xx))), (0, .ref y), (1, .int (zI (n))), (2, .int (zI (0))), (3, .int (zI ((((4 * (2 * n + 0)) : Nat) : Int)))), (4, .int (zI (v)))]) hx hb dX7_search_154 hl (k := 6) rfl (zI_incr (by omega)) (by decide) rfl (fun ls hl => ?_)
                refine lv_goto (tgt := 26) hx hb dX7_search_157 (by decide) ?_
                have hP := hP.sub (ws' := [oM y b (((R : Nat) : Int)) (((fm3 : Nat) : Int)) (kn) (pm0) (lm), aJ t (b 5) 16 (fd3), aZ t (b 9) 30 (va_up Fo (2 * n + 0) 1), aI t (b 10) 120 (va_up (va_up (C) ((4 * (2 * n + 0)) + 2) (((mm + 1 : Nat) : Int))) ((4 * (2 * n + 0)) + 3) (((kd + 0 : Nat) : Int)))]) [2, 3, 0, 1] rfl
                have hD := hD.sub (ws' := [oM y b (((R : Nat) : Int)) (((fm3 : Nat) : Int)) (kn) (pm0) (lm), aJ t (b 5) 16 (fd3), aZ t (b 9) 30 (va_up Fo (2 * n + 0) 1), aI t (b 10) 120 (va_up (va_up (C) ((4 * (2 * n + 0)) + 2) (((mm + 1 : Nat) : Int))) ((4 * (2 * n + 0)) + 3) (((kd + 0 : Nat) : Int)))]) [2, 3, 0, 1] (by decide) rfl
                exact ih26 (xx + 1) (v) (l0) (mm + 1) (kd + 0) (((fm3 : Nat) : Int)) (fd3) (va_up (va_up (C) ((4 * (2 * n + 0)) + 2) (((mm + 1 : Nat) : Int))) ((4 * (2 * n + 0)) + 3) (((kd + 0 : Nat) : Int))) (by omega) (by rw [bs_eq (by rw [q2]; exact c108), q2, show gm n xx = false from decide_eq_false (by omega)]; rfl) (by omega) (by omega) (by rw [if_neg (by omega), q5, if_neg (by omega)]; exact brw_upd _ _ _ _ _ _ _ _) (by omega) (by omega) _ _ hP hD hS _ (lv_sub hl [2, 3, 4, 5, 6, 0] rfl)
              · refine lv_iconst (v := zI 1) hx hb dX7_search_147 rfl ?_
                refine z_re (e2 := ((1 : Nat) : Int)) (rfl) ?_
                refine lv_goto (tgt := 152) hx hb dX7_search_148 (by decide) ?_
                refine z_iadd hx hb dX7_search_152 ?_
                refine z_re (e2 := ((kd + 1 : Nat) : Int)) (by omega) ?_
                refine z_iast hx hb hK hP hD hS 1 0 rfl rfl ((4 * (2 * n + 0)) + 3) (by omega) (by omega) (by omega) dX7_search_153 (fun H locs hP hD hS => ?_)
                have hP : va_P D vwCl [aZ t (b 9) 30 (va_up Fo (2 * n + 0) 1), aI t (b 10) 120 (va_up (va_up (C) ((4 * (2 * n + 0)) + 2) (((mm + 1 : Nat) : Int))) ((4 * (2 * n + 0)) + 3) (((kd + 1 : Nat) : Int))), oM y b (((R : Nat) : Int)) (((fm3 : Nat) : Int)) (kn) (pm0) (lm), aJ t (b 5) 16 (fd3)] H := hP
                have hD : va_D AA [aZ t (b 9) 30 (va_up Fo (2 * n + 0) 1), aI t (b 10) 120 (va_up (va_up (C) ((4 * (2 * n + 0)) + 2) (((mm + 1 : Nat) : Int))) ((4 * (2 * n + 0)) + 3) (((kd + 1 : Nat) : Int))), oM y b (((R : Nat) : Int)) (((fm3 : Nat) : Int)) (kn) (pm0) (lm), aJ t (b 5) 16 (fd3)] := hD
                refine lv_iinc (v := zI (((xx + 1 : Nat) : Int))) (lv' := [(5, .int (zI (((xx + 1 : Nat) : Int)))), (6, .int (zI (fm n 0 xx))), (0, .ref y), (1, .int (zI (n))), (2, .int (zI (0))), (3, .int (zI ((((4 * (2 * n + 0)) : Nat) : Int)))), (4, .int (zI (v)))]) hx hb dX7_search_154 hl (k := 6) rfl (zI_incr (by omega)) (by decide) rfl (fun ls hl => ?_)
                refine lv_goto (tgt := 26) hx hb dX7_search_157 (by decide) ?_
                have hP := hP.sub (ws' := [oM y b (((R : Nat) : Int)) (((fm3 : Nat) : Int)) (kn) (pm0) (lm), aJ t (b 5) 16 (fd3), aZ t (b 9) 30 (va_up Fo (2 * n + 0) 1), aI t (b 10) 120 (va_up (va_up (C) ((4 * (2 * n + 0)) + 2) (((mm + 1 : Nat) : Int))) ((4 * (2 * n + 0)) + 3) (((kd + 1 : Nat) : Int)))]) [2, 3, 0, 1] rfl
                have hD := hD.sub (ws' := [oM y b (((R : Nat) : Int)) (((fm3 : Nat) : Int)) (kn) (pm0) (lm), aJ t (b 5) 16 (fd3), aZ t (b 9) 30 (va_up Fo (2 * n + 0) 1), aI t (b 10) 120 (va_up (va_up (C) ((4 * (2 * n + 0)) + 2) (((mm + 1 : Nat) : Int))) ((4 * (2 * n + 0)) + 3) (((kd + 1 : Nat) : Int)))]) [2, 3, 0, 1] (by decide) rfl
                exact ih26 (xx + 1) (v) (l0) (mm + 1) (kd + 1) (((fm3 : Nat) : Int)) (fd3) (va_up (va_up (C) ((4 * (2 * n + 0)) + 2) (((mm + 1 : Nat) : Int))) ((4 * (2 * n + 0)) + 3) (((kd + 1 : Nat) : Int))) (by omega) (by rw [bs_eq (by rw [q2]; exact c108), q2, show gm n xx = true from decide_eq_true (by omega)]; rfl) (by omega) (by omega) (by rw [if_neg (by omega), q5, if_neg (by omega)]; exact brw_upd _ _ _ _ _ _ _ _) (by omega) (by omega) _ _ hP hD hS _ (lv_sub hl [2, 3, 4, 5, 6, 0] rfl)
          · refine lv_iload hx hb dX7_search_64 (lv_at hl 0 rfl) ?_
            refine lv_istore (lv' := [(4, .int (zI (fm n 0 xx))), (6, .int (zI (fm n 0 xx))), (0, .ref y), (1, .int (zI (n))), (2, .int (zI (0))), (3, .int (zI ((((4 * (2 * n + 0)) : Nat) : Int)))), (5, .int (zI (((xx : Nat) : Int))))]) hx hb dX7_search_66 hl (by decide) rfl (fun ls hl => ?_)
            refine lv_aload_n hx hb dX7_search_68 rfl (lv_at hl 2 rfl) ?_
            refine va_get (D := D) (ci := 6) (v := .ref (b 10)) (C := RX7) (T := TX7) (N := 16) hx hb hts iX7 hown hK hP 0 rfl rfl 15 (by decide) (hts (.fieldLink RX7 46 "CancelRowsModel" "bestRow" "[I") (by decide +kernel)) (fun _ h9 => h9) rfl dX7_search_69 ?_
            refine lv_iload_n hx hb dX7_search_72 rfl (lv_at hl 5 rfl) ?_
            refine lv_iload hx hb dX7_search_73 (lv_at hl 1 rfl) ?_
            refine z_iast hx hb hK hP hD hS 3 0 rfl rfl ((4 * (2 * n + 0))) (by omega) (by omega) (by omega) dX7_search_75 (fun H locs hP hD hS => ?_)
            have hP : va_P D vwCl [oM y b (((R : Nat) : Int)) (fm2) (kn) (pm0) (lm), aJ t (b 5) 16 (fd), aZ t (b 9) 30 (va_up Fo (2 * n + 0) 1), aI t (b 10) 120 (va_up (C) ((4 * (2 * n + 0))) (fm n 0 xx))] H := hP
            have hD : va_D AA [oM y b (((R : Nat) : Int)) (fm2) (kn) (pm0) (lm), aJ t (b 5) 16 (fd), aZ t (b 9) 30 (va_up Fo (2 * n + 0) 1), aI t (b 10) 120 (va_up (C) ((4 * (2 * n + 0))) (fm n 0 xx))] := hD
            refine lv_aload_n hx hb dX7_search_76 rfl (lv_at hl 2 rfl) ?_
            refine va_get (D := D) (ci := 6) (v := .ref (b 10)) (C := RX7) (T := TX7) (N := 16) hx hb hts iX7 hown hK hP 0 rfl rfl 15 (by decide) (hts (.fieldLink RX7 46 "CancelRowsModel" "bestRow" "[I") (by decide +kernel)) (fun _ h9 => h9) rfl dX7_search_77 ?_
            refine lv_iload_n hx hb dX7_search_80 rfl (lv_at hl 5 rfl) ?_
            refine lv_iconst (v := zI 1) hx hb dX7_search_81 rfl ?_
            refine z_iadd hx hb dX7_search_82 ?_
            refine z_re (e2 := (((4 * (2 * n + 0)) + 1 : Nat) : Int)) (by omega) ?_
            refine lv_iload hx hb dX7_search_83 (lv_at hl 6 rfl) ?_
            refine z_iast hx hb hK hP hD hS 3 0 rfl rfl ((4 * (2 * n + 0)) + 1) (by omega) (by omega) (by omega) dX7_search_85 (fun H locs hP hD hS => ?_)
            have hP : va_P D vwCl [oM y b (((R : Nat) : Int)) (fm2) (kn) (pm0) (lm), aJ t (b 5) 16 (fd), aZ t (b 9) 30 (va_up Fo (2 * n + 0) 1), aI t (b 10) 120 (va_up (va_up (C) ((4 * (2 * n + 0))) (fm n 0 xx)) ((4 * (2 * n + 0)) + 1) (((xx : Nat) : Int)))] H := hP
            have hD : va_D AA [oM y b (((R : Nat) : Int)) (fm2) (kn) (pm0) (lm), aJ t (b 5) 16 (fd), aZ t (b 9) 30 (va_up Fo (2 * n + 0) 1), aI t (b 10) 120 (va_up (va_up (C) ((4 * (2 * n + 0))) (fm n 0 xx)) ((4 * (2 * n + 0)) + 1) (((xx : Nat) : Int)))] := hD
            refine lv_aload_n hx hb dX7_search_86 rfl (lv_at hl 2 rfl) ?_
            refine va_get (D := D) (ci := 6) (v := .ref (b 10)) (C := RX7) (T := TX7) (N := 16) hx hb hts iX7 hown hK hP 0 rfl rfl 15 (by decide) (hts (.fieldLink RX7 46 "CancelRowsModel" "bestRow" "[I") (by decide +kernel)) (fun _ h9 => h9) rfl dX7_search_87 ?_
            refine lv_iload_n hx hb dX7_search_90 rfl (lv_at hl 5 rfl) ?_
            refine lv_iconst (v := zI 2) hx hb dX7_search_91 rfl ?_
            refine z_iadd hx hb dX7_search_92 ?_
            refine z_re (e2 := (((4 * (2 * n + 0)) + 2 : Nat) : Int)) (by omega) ?_
            refine lv_iconst (v := zI 0) hx hb dX7_search_93 rfl ?_
            refine z_iast hx hb hK hP hD hS 3 0 rfl rfl ((4 * (2 * n + 0)) + 2) (by omega) (by omega) (by omega) dX7_search_94 (fun H locs hP hD hS => ?_)
            have hP : va_P D vwCl [oM y b (((R : Nat) : Int)) (fm2) (kn) (pm0) (lm), aJ t (b 5) 16 (fd), aZ t (b 9) 30 (va_up Fo (2 * n + 0) 1), aI t (b 10) 120 (va_up (va_up (va_up (C) ((4 * (2 * n + 0))) (fm n 0 xx)) ((4 * (2 * n + 0)) + 1) (((xx : Nat) : Int))) ((4 * (2 * n + 0)) + 2) (0))] H := hP
            have hD : va_D AA [oM y b (((R : Nat) : Int)) (fm2) (kn) (pm0) (lm), aJ t (b 5) 16 (fd), aZ t (b 9) 30 (va_up Fo (2 * n + 0) 1), aI t (b 10) 120 (va_up (va_up (va_up (C) ((4 * (2 * n + 0))) (fm n 0 xx)) ((4 * (2 * n + 0)) + 1) (((xx : Nat) : Int))) ((4 * (2 * n + 0)) + 2) (0))] := hD
            refine lv_aload_n hx hb dX7_search_95 rfl (lv_at hl 2 rfl) ?_
            refine va_get (D := D) (ci := 6) (v := .ref (b 10)) (C := RX7) (T := TX7) (N := 16) hx hb hts iX7 hown hK hP 0 rfl rfl 15 (by decide) (hts (.fieldLink RX7 46 "CancelRowsModel" "bestRow" "[I") (by decide +kernel)) (fun _ h9 => h9) rfl dX7_search_96 ?_
            refine lv_iload_n hx hb dX7_search_99 rfl (lv_at hl 5 rfl) ?_
            refine lv_iconst (v := zI 3) hx hb dX7_search_100 rfl ?_
            refine z_iadd hx hb dX7_search_101 ?_
            refine z_re (e2 := (((4 * (2 * n + 0)) + 3 : Nat) : Int)) (by omega) ?_
            refine lv_iconst (v := zI 0) hx hb dX7_search_102 rfl ?_
            refine z_iast hx hb hK hP hD hS 3 0 rfl rfl ((4 * (2 * n + 0)) + 3) (by omega) (by omega) (by omega) dX7_search_103 (fun H locs hP hD hS => ?_)
            have hP : va_P D vwCl [oM y b (((R : Nat) : Int)) (fm2) (kn) (pm0) (lm), aJ t (b 5) 16 (fd), aZ t (b 9) 30 (va_up Fo (2 * n + 0) 1), aI t (b 10) 120 (va_up (va_up (va_up (va_up (C) ((4 * (2 * n + 0))) (fm n 0 xx)) ((4 * (2 * n + 0)) + 1) (((xx : Nat) : Int))) ((4 * (2 * n + 0)) + 2) (0)) ((4 * (2 * n + 0)) + 3) (0))] H := hP
            have hD : va_D AA [oM y b (((R : Nat) : Int)) (fm2) (kn) (pm0) (lm), aJ t (b 5) 16 (fd), aZ t (b 9) 30 (va_up Fo (2 * n + 0) 1), aI t (b 10) 120 (va_up (va_up (va_up (va_up (C) ((4 * (2 * n + 0))) (fm n 0 xx)) ((4 * (2 * n + 0)) + 1) (((xx : Nat) : Int))) ((4 * (2 * n + 0)) + 2) (0)) ((4 * (2 * n + 0)) + 3) (0))] := hD
            refine lv_iload hx hb dX7_search_104 (lv_at hl 1 rfl) ?_
            refine lv_iload hx hb dX7_search_106 (lv_at hl 0 rfl) ?_
            refine z_icmp_ne (tgt := 154) hx hb dX7_search_108 (by decide) (by omega) (by omega) (fun c108 => ?_) (fun c108 => ?_)
            · exact absurd rfl c108
            · refine lv_aload_n hx hb dX7_search_111 rfl (lv_at hl 2 rfl) ?_
              refine va_get (D := D) (ci := 6) (v := .ref (b 10)) (C := RX7) (T := TX7) (N := 16) hx hb hts iX7 hown hK hP 0 rfl rfl 15 (by decide) (hts (.fieldLink RX7 46 "CancelRowsModel" "bestRow" "[I") (by decide +kernel)) (fun _ h9 => h9) rfl dX7_search_112 ?_
              refine lv_iload_n hx hb dX7_search_115 rfl (lv_at hl 5 rfl) ?_
              refine lv_iconst (v := zI 2) hx hb dX7_search_116 rfl ?_
              refine z_iadd hx hb dX7_search_117 ?_
              refine z_re (e2 := (((4 * (2 * n + 0)) + 2 : Nat) : Int)) (by omega) ?_
              refine lv_dup2_11 hx hb dX7_search_118 rfl rfl ?_
              refine z_iald hx hb hK hP 3 0 rfl rfl ((4 * (2 * n + 0)) + 2) (by omega) (by omega) (by omega) dX7_search_119 ?_
              refine z_re (e2 := ((0 : Nat) : Int)) (by simp [va_up]) ?_
              refine lv_iconst (v := zI 1) hx hb dX7_search_120 rfl ?_
              refine z_iadd hx hb dX7_search_121 ?_
              refine z_re (e2 := ((1 : Nat) : Int)) (by omega) ?_
              refine z_iast hx hb hK hP hD hS 3 0 rfl rfl ((4 * (2 * n + 0)) + 2) (by omega) (by omega) (by omega) dX7_search_122 (fun H locs hP hD hS => ?_)
              have hP : va_P D vwCl [oM y b (((R : Nat) : Int)) (fm2) (kn) (pm0) (lm), aJ t (b 5) 16 (fd), aZ t (b 9) 30 (va_up Fo (2 * n + 0) 1), aI t (b 10) 120 (va_up (va_up (va_up (va_up (va_up (C) ((4 * (2 * n + 0))) (fm n 0 xx)) ((4 * (2 * n + 0)) + 1) (((xx : Nat) : Int))) ((4 * (2 * n + 0)) + 2) (0)) ((4 * (2 * n + 0)) + 3) (0)) ((4 * (2 * n + 0)) + 2) (((1 : Nat) : Int)))] H := hP
              have hD : va_D AA [oM y b (((R : Nat) : Int)) (fm2) (kn) (pm0) (lm), aJ t (b 5) 16 (fd), aZ t (b 9) 30 (va_up Fo (2 * n + 0) 1), aI t (b 10) 120 (va_up (va_up (va_up (va_up (va_up (C) ((4 * (2 * n + 0))) (fm n 0 xx)) ((4 * (2 * n + 0)) + 1) (((xx : Nat) : Int))) ((4 * (2 * n + 0)) + 2) (0)) ((4 * (2 * n + 0)) + 3) (0)) ((4 * (2 * n + 0)) + 2) (((1 : Nat) : Int)))] := hD
              refine lv_aload_n hx hb dX7_search_123 rfl (lv_at hl 2 rfl) ?_
              refine va_get (D := D) (ci := 6) (v := .ref (b 10)) (C := RX7) (T := TX7) (N := 16) hx hb hts iX7 hown hK hP 0 rfl rfl 15 (by decide) (hts (.fieldLink RX7 46 "CancelRowsModel" "bestRow" "[I") (by decide +kernel)) (fun _ h9 => h9) rfl dX7_search_124 ?_
              refine lv_iload_n hx hb dX7_search_127 rfl (lv_at hl 5 rfl) ?_
              refine lv_iconst (v := zI 3) hx hb dX7_search_128 rfl ?_
              refine z_iadd hx hb dX7_search_129 ?_
              refine z_re (e2 := (((4 * (2 * n + 0)) + 3 : Nat) : Int)) (by omega) ?_
              refine lv_dup2_11 hx hb dX7_search_130 rfl rfl ?_
              refine z_iald hx hb hK hP 3 0 rfl rfl ((4 * (2 * n + 0)) + 3) (by omega) (by omega) (by omega) dX7_search_131 ?_
              refine z_re (e2 := ((0 : Nat) : Int)) (by simp [va_up]) ?_
              refine lv_aload_n hx hb dX7_search_132 rfl (lv_at hl 2 rfl) ?_
              refine lv_iload_n hx hb dX7_search_133 rfl (lv_at hl 3 rfl) ?_
              refine lv_iload hx hb dX7_search_134 (lv_at hl 6 rfl) ?_
              refine n_i2l (a := xx) hx hb (by omega) dX7_search_136 ?_
              have hPc := hP.sub (ws' := [oM y b (((R : Nat) : Int)) (fm2) (kn) (pm0) (lm), aJ t (b 5) 16 (fd)]) [0, 1] rfl
              have hDc := hD.sub (ws' := [oM y b (((R : Nat) : Int)) (fm2) (kn) (pm0) (lm), aJ t (b 5) 16 (fd)]) [0, 1] (by decide) rfl
              have hFc := va_free (wc := [oM y b (((R : Nat) : Int)) (fm2) (kn) (pm0) (lm), aJ t (b 5) 16 (fd)]) hD hS hA [0, 1] rfl
              refine va_calll (va_runV (As := [.int (zI (n)), .long (lN (xx))]) (rest := [.int (zI (((0 : Nat) : Int))), .int (zI ((((4 * (2 * n + 0)) + 3 : Nat) : Int))), .ref (b 10)]) ⟨hx, hb, hml, hown, hts⟩ (c_X7_turns l D t H.size y b R fm2 kn pm0 lm fd n xx (by omega) (by omega)) (cwV 2 hts gX7_search_X7_turns rfl rfl rfl (by decide +kernel) ⟨Nat.le_of_ble_eq_true rfl, Nat.le_of_ble_eq_true rfl⟩) ⟨fun a U g mk q => by obtain ⟨q0, q1, qP, qK, qD⟩ := q; exact ⟨q0, q1, qP, va_K.moved (u := U) (U := U.calling g mk a) (Vm.Alike.refl U.vm) qK, qD⟩, va_recv hK hPc (ci := 6) (q0 := 0) rfl rfl, fun U hU hW => ⟨rfl, by rw [hU], by rw [hU]; exact hPc, va_K.moved hW.alike hK, hDc.weaken (fun _ _ _ _ => trivial)⟩⟩ rfl rfl hl.1 rfl (lv_room (Nat.le_of_ble_eq_true rfl)) dX7_search_137 ⟨Nat.le_of_ble_eq_true rfl, Nat.le_of_ble_eq_true rfl⟩) hS (fun q _ h => hFc q h) hFc (fun r u tq H1 locs ht hvm hr137 hB hz1 hk1 hS => ?_)
              obtain ⟨fm3, fd3⟩ := u
              obtain ⟨hP1, hK1, hD1⟩ := hB
              rw [ht] at hP1
              obtain ⟨hP, hD⟩ := va_join (wr := [aZ t (b 9) 30 (va_up Fo (2 * n + 0) 1), aI t (b 10) 120 (va_up (va_up (va_up (va_up (va_up (C) ((4 * (2 * n + 0))) (fm n 0 xx)) ((4 * (2 * n + 0)) + 1) (((xx : Nat) : Int))) ((4 * (2 * n + 0)) + 2) (0)) ((4 * (2 * n + 0)) + 3) (0)) ((4 * (2 * n + 0)) + 2) (((1 : Nat) : Int)))]) (w1 := [oM y b (((R : Nat) : Int)) (((fm3 : Nat) : Int)) (kn) (pm0) (lm), aJ t (b 5) 16 (fd3)]) hP hD [0, 1] [2, 3] rfl rfl (by decide) (by decide) hk1 hFc hP1 hD1
              generalize H1 = H at hP hS ⊢
              have hP : va_P D vwCl [aZ t (b 9) 30 (va_up Fo (2 * n + 0) 1), aI t (b 10) 120 (va_up (va_up (va_up (va_up (va_up (C) ((4 * (2 * n + 0))) (fm n 0 xx)) ((4 * (2 * n + 0)) + 1) (((xx : Nat) : Int))) ((4 * (2 * n + 0)) + 2) (0)) ((4 * (2 * n + 0)) + 3) (0)) ((4 * (2 * n + 0)) + 2) (((1 : Nat) : Int))), oM y b (((R : Nat) : Int)) (((fm3 : Nat) : Int)) (kn) (pm0) (lm), aJ t (b 5) 16 (fd3)] H := hP
              have hD : va_D AA [aZ t (b 9) 30 (va_up Fo (2 * n + 0) 1), aI t (b 10) 120 (va_up (va_up (va_up (va_up (va_up (C) ((4 * (2 * n + 0))) (fm n 0 xx)) ((4 * (2 * n + 0)) + 1) (((xx : Nat) : Int))) ((4 * (2 * n + 0)) + 2) (0)) ((4 * (2 * n + 0)) + 3) (0)) ((4 * (2 * n + 0)) + 2) (((1 : Nat) : Int))), oM y b (((R : Nat) : Int)) (((fm3 : Nat) : Int)) (kn) (pm0) (lm), aJ t (b 5) 16 (fd3)] := hD
              obtain ⟨rfl, hc3⟩ := hr137
              have b2 := ltw_lt (show xx < 2 ^ n by omega) 8
              refine lv_iload hx hb dX7_search_140 (lv_at hl 6 rfl) ?_
              refine n_i2l (a := xx) hx hb (by omega) dX7_search_142 ?_
              refine z_lcmp_ne (a := ((ltw n xx 8 : Nat) : Int)) (b := ((xx : Nat) : Int)) (tgt := 151) hx hb dX7_search_143 dX7_search_144 (by decide) (lN_toI (n := ltw n xx 8) (by omega)) (lN_toI (n := xx) (by omega)) (fun c143 => ?_) (fun c143 => ?_)
              · refine lv_iconst (v := zI 0) hx hb dX7_search_151 rfl ?_
                refine z_re (e2 := ((0 : Nat) : Int)) (rfl) ?_
                refine z_iadd hx hb dX7_search_152 ?_
                refine z_re (e2 := ((0 : Nat) : Int)) (by omega) ?_
                refine z_iast hx hb hK hP hD hS 1 0 rfl rfl ((4 * (2 * n + 0)) + 3) (by omega) (by omega) (by omega) dX7_search_153 (fun H locs hP hD hS => ?_)
                have hP : va_P D vwCl [aZ t (b 9) 30 (va_up Fo (2 * n + 0) 1), aI t (b 10) 120 (va_up (va_up (va_up (va_up (va_up (va_up (C) ((4 * (2 * n + 0))) (fm n 0 xx)) ((4 * (2 * n + 0)) + 1) (((xx : Nat) : Int))) ((4 * (2 * n + 0)) + 2) (0)) ((4 * (2 * n + 0)) + 3) (0)) ((4 * (2 * n + 0)) + 2) (((1 : Nat) : Int))) ((4 * (2 * n + 0)) + 3) (((0 : Nat) : Int))), oM y b (((R : Nat) : Int)) (((fm3 : Nat) : Int)) (kn) (pm0) (lm), aJ t (b 5) 16 (fd3)] H := hP
                have hD : va_D AA [aZ t (b 9) 30 (va_up Fo (2 * n + 0) 1), aI t (b 10) 120 (va_up (va_up (va_up (va_up (va_up (va_up (C) ((4 * (2 * n + 0))) (fm n 0 xx)) ((4 * (2 * n + 0)) + 1) (((xx : Nat) : Int))) ((4 * (2 * n + 0)) + 2) (0)) ((4 * (2 * n + 0)) + 3) (0)) ((4 * (2 * n + 0)) + 2) (((1 : Nat) : Int))) ((4 * (2 * n + 0)) + 3) (((0 : Nat) : Int))), oM y b (((R : Nat) : Int)) (((fm3 : Nat) : Int)) (kn) (pm0) (lm), aJ t (b 5) 16 (fd3)] := hD
                refine lv_iinc (v := zI (((xx + 1 : Nat) : Int))) (lv' := [(5, .int (zI (((xx + 1 : Nat) : Int)))), (4, .int (zI (fm n 0 xx))), (6, .int (zI (fm n 0 xx))), (0, .ref y), (1, .int (zI (n))), (2, .int (zI (0))), (3, .int (zI ((((4 * (2 * n + 0)) : Nat) : Int))))]) hx hb dX7_search_154 hl (k := 6) rfl (zI_incr (by omega)) (by decide) rfl (fun ls hl => ?_)
                refine lv_goto (tgt := 26) hx hb dX7_search_157 (by decide) ?_
                have hP := hP.sub (ws' := [oM y b (((R : Nat) : Int)) (((fm3 : Nat) : Int)) (kn) (pm0) (lm), aJ t (b 5) 16 (fd3), aZ t (b 9) 30 (va_up Fo (2 * n + 0) 1), aI t (b 10) 120 (va_up (va_up (va_up (va_up (va_up (va_up (C) ((4 * (2 * n + 0))) (fm n 0 xx)) ((4 * (2 * n + 0)) + 1) (((xx : Nat) : Int))) ((4 * (2 * n + 0)) + 2) (0)) ((4 * (2 * n + 0)) + 3) (0)) ((4 * (2 * n + 0)) + 2) (((1 : Nat) : Int))) ((4 * (2 * n + 0)) + 3) (((0 : Nat) : Int)))]) [2, 3, 0, 1] rfl
                have hD := hD.sub (ws' := [oM y b (((R : Nat) : Int)) (((fm3 : Nat) : Int)) (kn) (pm0) (lm), aJ t (b 5) 16 (fd3), aZ t (b 9) 30 (va_up Fo (2 * n + 0) 1), aI t (b 10) 120 (va_up (va_up (va_up (va_up (va_up (va_up (C) ((4 * (2 * n + 0))) (fm n 0 xx)) ((4 * (2 * n + 0)) + 1) (((xx : Nat) : Int))) ((4 * (2 * n + 0)) + 2) (0)) ((4 * (2 * n + 0)) + 3) (0)) ((4 * (2 * n + 0)) + 2) (((1 : Nat) : Int))) ((4 * (2 * n + 0)) + 3) (((0 : Nat) : Int)))]) [2, 3, 0, 1] (by decide) rfl
                exact ih26 (xx + 1) (fm n 0 xx) (xx) (1) (0) (((fm3 : Nat) : Int)) (fd3) (va_up (va_up (va_up (va_up (va_up (va_up (C) ((4 * (2 * n + 0))) (fm n 0 xx)) ((4 * (2 * n + 0)) + 1) (((xx : Nat) : Int))) ((4 * (2 * n + 0)) + 2) (0)) ((4 * (2 * n + 0)) + 3) (0)) ((4 * (2 * n + 0)) + 2) (((1 : Nat) : Int))) ((4 * (2 * n + 0)) + 3) (((0 : Nat) : Int))) (by omega) (by rw [bs_lt (by rw [q2]; exact c61), show gm n xx = false from decide_eq_false (by omega)]; rfl) (by omega) (by omega) (by rw [if_neg (by omega), ← brw_if q5]; exact brw_new _ _ _ _ _ _ _ _) (by omega) (by omega) _ _ hP hD hS _ (lv_sub hl [3, 4, 5, 6, 1, 0] rfl)
              · refine lv_iconst (v := zI 1) hx hb dX7_search_147 rfl ?_
                refine z_re (e2 := ((1 : Nat) : Int)) (rfl) ?_
                refine lv_goto (tgt := 152) hx hb dX7_search_148 (by decide) ?_
                refine z_iadd hx hb dX7_search_152 ?_
                refine z_re (e2 := ((1 : Nat) : Int)) (by omega) ?_
                refine z_iast hx hb hK hP hD hS 1 0 rfl rfl ((4 * (2 * n + 0)) + 3) (by omega) (by omega) (by omega) dX7_search_153 (fun H locs hP hD hS => ?_)
                have hP : va_P D vwCl [aZ t (b 9) 30 (va_up Fo (2 * n + 0) 1), aI t (b 10) 120 (va_up (va_up (va_up (va_up (va_up (va_up (C) ((4 * (2 * n + 0))) (fm n 0 xx)) ((4 * (2 * n + 0)) + 1) (((xx : Nat) : Int))) ((4 * (2 * n + 0)) + 2) (0)) ((4 * (2 * n + 0)) + 3) (0)) ((4 * (2 * n + 0)) + 2) (((1 : Nat) : Int))) ((4 * (2 * n + 0)) + 3) (((1 : Nat) : Int))), oM y b (((R : Nat) : Int)) (((fm3 : Nat) : Int)) (kn) (pm0) (lm), aJ t (b 5) 16 (fd3)] H := hP
                have hD : va_D AA [aZ t (b 9) 30 (va_up Fo (2 * n + 0) 1), aI t (b 10) 120 (va_up (va_up (va_up (va_up (va_up (va_up (C) ((4 * (2 * n + 0))) (fm n 0 xx)) ((4 * (2 * n + 0)) + 1) (((xx : Nat) : Int))) ((4 * (2 * n + 0)) + 2) (0)) ((4 * (2 * n + 0)) + 3) (0)) ((4 * (2 * n + 0)) + 2) (((1 : Nat) : Int))) ((4 * (2 * n + 0)) + 3) (((1 : Nat) : Int))), oM y b (((R : Nat) : Int)) (((fm3 : Nat) : Int)) (kn) (pm0) (lm), aJ t (b 5) 16 (fd3)] := hD
                refine lv_iinc (v := zI (((xx + 1 : Nat) : Int))) (lv' := [(5, .int (zI (((xx + 1 : Nat) : Int)))), (4, .int (zI (fm n 0 xx))), (6, .int (zI (fm n 0 xx))), (0, .ref y), (1, .int (zI (n))), (2, .int (zI (0))), (3, .int (zI ((((4 * (2 * n + 0)) : Nat) : Int))))]) hx hb dX7_search_154 hl (k := 6) rfl (zI_incr (by omega)) (by decide) rfl (fun ls hl => ?_)
                refine lv_goto (tgt := 26) hx hb dX7_search_157 (by decide) ?_
                have hP := hP.sub (ws' := [oM y b (((R : Nat) : Int)) (((fm3 : Nat) : Int)) (kn) (pm0) (lm), aJ t (b 5) 16 (fd3), aZ t (b 9) 30 (va_up Fo (2 * n + 0) 1), aI t (b 10) 120 (va_up (va_up (va_up (va_up (va_up (va_up (C) ((4 * (2 * n + 0))) (fm n 0 xx)) ((4 * (2 * n + 0)) + 1) (((xx : Nat) : Int))) ((4 * (2 * n + 0)) + 2) (0)) ((4 * (2 * n + 0)) + 3) (0)) ((4 * (2 * n + 0)) + 2) (((1 : Nat) : Int))) ((4 * (2 * n + 0)) + 3) (((1 : Nat) : Int)))]) [2, 3, 0, 1] rfl
                have hD := hD.sub (ws' := [oM y b (((R : Nat) : Int)) (((fm3 : Nat) : Int)) (kn) (pm0) (lm), aJ t (b 5) 16 (fd3), aZ t (b 9) 30 (va_up Fo (2 * n + 0) 1), aI t (b 10) 120 (va_up (va_up (va_up (va_up (va_up (va_up (C) ((4 * (2 * n + 0))) (fm n 0 xx)) ((4 * (2 * n + 0)) + 1) (((xx : Nat) : Int))) ((4 * (2 * n + 0)) + 2) (0)) ((4 * (2 * n + 0)) + 3) (0)) ((4 * (2 * n + 0)) + 2) (((1 : Nat) : Int))) ((4 * (2 * n + 0)) + 3) (((1 : Nat) : Int)))]) [2, 3, 0, 1] (by decide) rfl
                exact ih26 (xx + 1) (fm n 0 xx) (xx) (1) (1) (((fm3 : Nat) : Int)) (fd3) (va_up (va_up (va_up (va_up (va_up (va_up (C) ((4 * (2 * n + 0))) (fm n 0 xx)) ((4 * (2 * n + 0)) + 1) (((xx : Nat) : Int))) ((4 * (2 * n + 0)) + 2) (0)) ((4 * (2 * n + 0)) + 3) (0)) ((4 * (2 * n + 0)) + 2) (((1 : Nat) : Int))) ((4 * (2 * n + 0)) + 3) (((1 : Nat) : Int))) (by omega) (by rw [bs_lt (by rw [q2]; exact c61), show gm n xx = true from decide_eq_true (by omega)]; rfl) (by omega) (by omega) (by rw [if_neg (by omega), ← brw_if q5]; exact brw_new _ _ _ _ _ _ _ _) (by omega) (by omega) _ _ hP hD hS _ (lv_sub hl [3, 4, 5, 6, 1, 0] rfl)
  exact lp26 _ (0) (1000000) (0) (0) (0) (fm1) (fd0) (Be) (by omega) (rfl) (by omega) (by omega) (rfl) (fun _ => rfl) (Nat.lt_succ_self _) _ _ hP hD hS _ (lv_sub hl [3, 4, 5, 2, 1, 0] rfl)

-- the check: search, way 1
set_option maxHeartbeats 4000000 in
set_option maxRecDepth 100000 in
theorem c_X7_search_1 (l : Launch) (D : va_G) (t : Nat → ClassId) (sz : Nat) (y : Nat) (b : Nat → Nat) (R : Nat) (fm1 kn pm0 lm : Int) (fd0 : Nat → Nat) (Fo Be : Nat → Int) (n : Nat) (gn : 1 ≤ n ∧ n ≤ 14) : Met l yX7_search wsX7_search ({ frames := 3, cells := 0, slots := 0, locals := 81 }) (va_Pc [.ref y, .int (zI (n)), .int (zI (1))] (fun U => U.heap.size = sz ∧ va_P D vwCl ([oM y b (((R : Nat) : Int)) (fm1) (kn) (pm0) (lm), aJ t (b 5) 16 (fd0), aZ t (b 9) 30 (Fo), aI t (b 10) 120 (Be)]) U.heap ∧ va_K D vwCl (TY t) U ∧ va_D (fun _ => True) ([oM y b (((R : Nat) : Int)) (fm1) (kn) (pm0) (lm), aJ t (b 5) 16 (fd0), aZ t (b 9) 30 (Fo), aI t (b 10) 120 (Be)]))) (va_Qv (fun (u : Int × (Nat → Nat)) => True) (fun (u : Int × (Nat → Nat)) t1 => va_P D vwCl ([oM y b (((R : Nat) : Int)) (u.1) (kn) (pm0) (lm), aJ t (b 5) 16 (u.2), aZ t (b 9) 30 (va_up Fo (2 * n + 1) 1), aI t (b 10) 120 (brw Be (4 * (2 * n + 1)) (bv n 1))]) t1.heap ∧ va_K D vwCl (TY t) t1 ∧ va_D (va_A ([oM y b (((R : Nat) : Int)) (fm1) (kn) (pm0) (lm), aJ t (b 5) 16 (fd0), aZ t (b 9) 30 (Fo), aI t (b 10) 120 (Be)]) sz) ([oM y b (((R : Nat) : Int)) (u.1) (kn) (pm0) (lm), aJ t (b 5) 16 (u.2), aZ t (b 9) 30 (va_up Fo (2 * n + 1) 1), aI t (b 10) 120 (brw Be (4 * (2 * n + 1)) (bv n 1))])) (va_A ([oM y b (((R : Nat) : Int)) (fm1) (kn) (pm0) (lm), aJ t (b 5) 16 (fd0), aZ t (b 9) 30 (Fo), aI t (b 10) 120 (Be)]) sz)) 0 0 (va_A ([oM y b (((R : Nat) : Int)) (fm1) (kn) (pm0) (lm), aJ t (b 5) 16 (fd0), aZ t (b 9) 30 (Fo), aI t (b 10) 120 (Be)]) sz) := by
  refine Met.ofW (cc := cX7_search) (maxL := 7) (ret := none) (by decide) rfl ?_
  intro p e s m args below meth c s₁ B hml hv
  obtain ⟨rfl, hsz, hP, hK, hD0⟩ := hv
  have hx := B.exec
  have hb := B.bytes
  have hr := B.returns
  have hts := atoms_spec (ws := wsX7_search) B.pre
  have hown : s.vm.findClass RX7 = some m.cls := findClass_of_methodNamed B.named
  have hlocks := B.notSynchronized
  subst hsz
  have hD := hD0.self (sz := s.heap.size)
  generalize hAe : va_A ([oM y b (((R : Nat) : Int)) (fm1) (kn) (pm0) (lm), aJ t (b 5) 16 (fd0), aZ t (b 9) 30 (Fo), aI t (b 10) 120 (Be)]) s.heap.size = AA at hD ⊢
  have hA : ∀ q : Nat, s.heap.size ≤ q → AA q := fun q h => by rw [← hAe]; exact Or.inr h
  have hS : va_S AA s.heap s.heap [] := va_S.rf
  have hP : va_P D vwCl ([oM y b (((R : Nat) : Int)) (fm1) (kn) (pm0) (lm), aJ t (b 5) 16 (fd0), aZ t (b 9) 30 (Fo), aI t (b 10) 120 (Be)]) s.heap := hP
  have hl := lv_entry ([.ref y, .int (zI (n)), .int (zI (1))]) (n := 7) (Nat.le_of_ble_eq_true rfl)
  rw [lg_entry_eq]
  generalize (lg_sl ([.ref y, .int (zI (n)), .int (zI (1))]) ++ List.replicate (7 - (lg_sl ([.ref y, .int (zI (n)), .int (zI (1))])).length) Slot.unset).toArray = ls at hl ⊢
  have hl : lv_has ls 7 [(0, .ref y), (1, .int (zI (n))), (2, .int (zI (1)))] := hl
  have iX7 : ∀ w ∈ u_ws RX7 TX7 16, w ∈ wsX7_search := by decide +kernel
  have b0 := n14 gn
  refine lv_iconst (v := zI 4) hx hb dX7_search_0 rfl ?_
  refine lv_iconst (v := zI 2) hx hb dX7_search_1 rfl ?_
  refine lv_iload_n hx hb dX7_search_2 rfl (lv_at hl 1 rfl) ?_
  refine z_imul hx hb dX7_search_3 ?_
  refine z_re (e2 := ((2 * n : Nat) : Int)) (by omega) ?_
  refine lv_iload_n hx hb dX7_search_4 rfl (lv_at hl 2 rfl) ?_
  refine z_iadd hx hb dX7_search_5 ?_
  refine z_re (e2 := ((2 * n + 1 : Nat) : Int)) (by omega) ?_
  refine z_imul hx hb dX7_search_6 ?_
  refine z_re (e2 := (((4 * (2 * n + 1)) : Nat) : Int)) (by omega) ?_
  refine lv_istore_n (lv' := [(3, .int (zI ((((4 * (2 * n + 1)) : Nat) : Int)))), (0, .ref y), (1, .int (zI (n))), (2, .int (zI (1)))]) hx hb dX7_search_7 rfl hl (by decide) rfl (fun ls hl => ?_)
  refine lv_aload_n hx hb dX7_search_8 rfl (lv_at hl 1 rfl) ?_
  refine va_get (D := D) (ci := 6) (v := .ref (b 9)) (C := RX7) (T := TX7) (N := 16) hx hb hts iX7 hown hK hP 0 rfl rfl 14 (by decide) (hts (.fieldLink RX7 42 "CancelRowsModel" "isFound" "[Z") (by decide +kernel)) (fun _ h9 => h9) rfl dX7_search_9 ?_
  refine lv_iconst (v := zI 2) hx hb dX7_search_12 rfl ?_
  refine lv_iload_n hx hb dX7_search_13 rfl (lv_at hl 2 rfl) ?_
  refine z_imul hx hb dX7_search_14 ?_
  refine z_re (e2 := ((2 * n : Nat) : Int)) (by omega) ?_
  refine lv_iload_n hx hb dX7_search_15 rfl (lv_at hl 3 rfl) ?_
  refine z_iadd hx hb dX7_search_16 ?_
  refine z_re (e2 := ((2 * n + 1 : Nat) : Int)) (by omega) ?_
  refine lv_iconst (v := zI 1) hx hb dX7_search_17 rfl ?_
  refine z_zast hx hb hK hP hD hS 2 2 rfl rfl (2 * n + 1) (by omega) (by omega) (by omega) (by decide +kernel) dX7_search_18 (fun H locs hP hD hS => ?_)
  have hP : va_P D vwCl [oM y b (((R : Nat) : Int)) (fm1) (kn) (pm0) (lm), aJ t (b 5) 16 (fd0), aZ t (b 9) 30 (va_up (Fo) (2 * n + 1) (1)), aI t (b 10) 120 (Be)] H := hP
  have hD : va_D AA [oM y b (((R : Nat) : Int)) (fm1) (kn) (pm0) (lm), aJ t (b 5) 16 (fd0), aZ t (b 9) 30 (va_up (Fo) (2 * n + 1) (1)), aI t (b 10) 120 (Be)] := hD
  refine lv_ldc (v := zI 1000000) hx hb hown (hts (.constant RX7 156 (zI 1000000)) (by decide +kernel)) dX7_search_19 ?_
  refine z_re (e2 := 1000000) (rfl) ?_
  refine lv_istore (lv' := [(4, .int (zI (1000000))), (3, .int (zI ((((4 * (2 * n + 1)) : Nat) : Int)))), (0, .ref y), (1, .int (zI (n))), (2, .int (zI (1)))]) hx hb dX7_search_21 hl (by decide) rfl (fun ls hl => ?_)
  refine lv_iconst (v := zI 0) hx hb dX7_search_23 rfl ?_
  refine z_re (e2 := ((0 : Nat) : Int)) (rfl) ?_
  refine lv_istore (lv' := [(5, .int (zI (((0 : Nat) : Int)))), (4, .int (zI (1000000))), (3, .int (zI ((((4 * (2 * n + 1)) : Nat) : Int)))), (0, .ref y), (1, .int (zI (n))), (2, .int (zI (1)))]) hx hb dX7_search_24 hl (by decide) rfl (fun ls hl => ?_)
  have lp26 : ∀ (NN : Nat) (xx : Nat) (v : Int) (l0 : Nat) (mm : Nat) (kd : Nat) (fm2 : Int) (fd : Nat → Nat) (C : Nat → Int) (q1 : xx ≤ 2 ^ n) (q2 : bs (fm n 1) (gm n) 1 xx = (v, l0, mm, kd)) (q3 : 0 ≤ v ∧ v ≤ 1000000) (q4 : l0 ≤ xx ∧ mm ≤ xx ∧ kd ≤ xx) (q5 : C = if xx = 0 then Be else brw Be (4 * (2 * n + 1)) (v, l0, mm, kd)) (q6 : xx = 0 → v = 1000000), 2 ^ n - xx < NN → ∀ (H : Heap) (locs : List Loc), va_P D vwCl [oM y b (((R : Nat) : Int)) (fm2) (kn) (pm0) (lm), aJ t (b 5) 16 (fd), aZ t (b 9) 30 (va_up Fo (2 * n + 1) 1), aI t (b 10) 120 (C)] H → va_D AA [oM y b (((R : Nat) : Int)) (fm2) (kn) (pm0) (lm), aJ t (b 5) 16 (fd), aZ t (b 9) 30 (va_up Fo (2 * n + 1) 1), aI t (b 10) 120 (C)] → va_S AA s.heap H locs → ∀ (ls : Array Slot), lv_has ls 7 [(0, .ref y), (1, .int (zI (n))), (2, .int (zI (1))), (3, .int (zI ((((4 * (2 * n + 1)) : Nat) : Int)))), (4, .int (zI (v))), (5, .int (zI (((xx : Nat) : Int))))] → W p l e (headSpec wsX7_search ({ frames := 3, cells := 0, slots := 0, locals := 81 })).room s m ([.ref y, .int (zI (n)), .int (zI (1))] : List Value).toArray below meth c H locs 0 0 (MQ below (va_Qv (fun (u : Int × (Nat → Nat)) => True) (fun (u : Int × (Nat → Nat)) t1 => va_P D vwCl ([oM y b (((R : Nat) : Int)) (u.1) (kn) (pm0) (lm), aJ t (b 5) 16 (u.2), aZ t (b 9) 30 (va_up Fo (2 * n + 1) 1), aI t (b 10) 120 (brw Be (4 * (2 * n + 1)) (bv n 1))]) t1.heap ∧ va_K D vwCl (TY t) t1 ∧ va_D (AA) ([oM y b (((R : Nat) : Int)) (u.1) (kn) (pm0) (lm), aJ t (b 5) 16 (u.2), aZ t (b 9) 30 (va_up Fo (2 * n + 1) 1), aI t (b 10) 120 (brw Be (4 * (2 * n + 1)) (bv n 1))])) (AA)) ([.ref y, .int (zI (n)), .int (zI (1))] : List Value).toArray s 0 0 (AA)) (F0 m 26 ls []) := by
    intro NN
    induction NN with
    | zero =>
      intro xx v l0 mm kd fm2 fd C q1 q2 q3 q4 q5 q6 hmu
      exact absurd hmu (Nat.not_lt_zero _)
    | succ NN ih26 =>
      intro xx v l0 mm kd fm2 fd C q1 q2 q3 q4 q5 q6 hmu H locs hP hD hS ls hl
      have b1 := fm_bd gn.2 1 xx
      refine lv_iload hx hb dX7_search_26 (lv_at hl 5 rfl) ?_
      refine lv_iconst (v := zI 1) hx hb dX7_search_28 rfl ?_
      refine lv_iload_n hx hb dX7_search_29 rfl (lv_at hl 1 rfl) ?_
      refine z_ishl hx hb (q := n) (by omega) dX7_search_30 ?_
      refine z_re (e2 := ((2 ^ n : Nat) : Int)) (by rw [Int.one_mul]; exact (Int.natCast_pow 2 n).symm) ?_
      refine z_icmp_ge (tgt := 160) hx hb dX7_search_31 (by decide) (by omega) (by omega) (fun c31 => ?_) (fun c31 => ?_)
      · have hq : xx = 2 ^ n := by omega
        obtain rfl : C = brw Be (4 * (2 * n + 1)) (bv n 1) := by rw [q5, if_neg (by omega), ← q2, hq]
        exact W.vret hx hb hr (fun tq ht hW => ⟨⟨(fm2, fd), rfl, trivial, by rw [ht]; exact hP, va_K.moved hW.alike hK, hD⟩, hS.F ht⟩) hS.2.2 dX7_search_160
      · refine lv_iload_n hx hb dX7_search_34 rfl (lv_at hl 2 rfl) ?_
        refine z_if_ne (tgt := 48) hx hb dX7_search_35 (by decide) (by omega) (fun c35 => ?_) (fun c35 => ?_)
        · refine lv_iload_n hx hb dX7_search_48 rfl (lv_at hl 1 rfl) ?_
          refine lv_iload hx hb dX7_search_49 (lv_at hl 5 rfl) ?_
          refine n_i2l (a := xx) hx hb (by omega) dX7_search_51 ?_
          refine vp_callSi (va_runS (As := [.int (zI (n)), .long (lN (xx))]) (rest := []) ⟨hx, hb, hml, hown, hts⟩ (c_X7_energyOf l n xx (by omega) gn.1 (by omega)) (va_cwS 2 hts gX7_search_X7_energyOf rfl rfl rfl (by decide +kernel) ⟨Nat.le_of_ble_eq_true rfl, Nat.le_of_ble_eq_true rfl⟩) ⟨fun a U g mk q => q, fun U hU hW => ⟨rfl, trivial⟩⟩ rfl rfl hl.1 rfl (lv_room (Nat.le_of_ble_eq_true rfl)) dX7_search_52 ⟨Nat.le_of_ble_eq_true rfl, Nat.le_of_ble_eq_true rfl⟩).run (fun r hr52 => ?_)
          obtain rfl := hr52
          refine z_re (e2 := fm n 1 xx) (by rw [fm, if_neg (by decide)]) ?_
          refine lv_istore (lv' := [(6, .int (zI (fm n 1 xx))), (0, .ref y), (1, .int (zI (n))), (2, .int (zI (1))), (3, .int (zI ((((4 * (2 * n + 1)) : Nat) : Int)))), (4, .int (zI (v))), (5, .int (zI (((xx : Nat) : Int))))]) hx hb dX7_search_55 hl (by decide) rfl (fun ls hl => ?_)
          refine lv_iload hx hb dX7_search_57 (lv_at hl 0 rfl) ?_
          refine lv_iload hx hb dX7_search_59 (lv_at hl 5 rfl) ?_
          refine z_icmp_ge (tgt := 104) hx hb dX7_search_61 (by decide) (by omega) (by omega) (fun c61 => ?_) (fun c61 => ?_)
          · refine lv_iload hx hb dX7_search_104 (lv_at hl 0 rfl) ?_
            refine lv_iload hx hb dX7_search_106 (lv_at hl 5 rfl) ?_
            refine z_icmp_ne (tgt := 154) hx hb dX7_search_108 (by decide) (by omega) (by omega) (fun c108 => ?_) (fun c108 => ?_)
            · refine lv_iinc (v := zI (((xx + 1 : Nat) : Int))) (lv' := [(5, .int (zI (((xx + 1 : Nat) : Int)))), (6, .int (zI (fm n 1 xx))), (0, .ref y), (1, .int (zI (n))), (2, .int (zI (1))), (3, .int (zI ((((4 * (2 * n + 1)) : Nat) : Int)))), (4, .int (zI (v)))]) hx hb dX7_search_154 hl (k := 6) rfl (zI_incr (by omega)) (by decide) rfl (fun ls hl => ?_)
              refine lv_goto (tgt := 26) hx hb dX7_search_157 (by decide) ?_
              exact ih26 (xx + 1) (v) (l0) (mm) (kd) (fm2) (fd) (C) (by omega) (by rw [bs_gt (by rw [q2]; show v < _; omega)]; exact q2) (by omega) (by omega) (by rw [if_neg (by omega), q5, if_neg (by omega)]) (by omega) (by omega) _ _ hP hD hS _ (lv_sub hl [2, 3, 4, 5, 6, 0] rfl)
            · refine lv_aload_n hx hb dX7_search_111 rfl (lv_at hl 1 rfl) ?_
              refine va_get (D := D) (ci := 6) (v := .ref (b 10)) (C := RX7) (T := TX7) (N := 16) hx hb hts iX7 hown hK hP 0 rfl rfl 15 (by decide) (hts (.fieldLink RX7 46 "CancelRowsModel" "bestRow" "[I") (by decide +kernel)) (fun _ h9 => h9) rfl dX7_search_112 ?_
              refine lv_iload_n hx hb dX7_search_115 rfl (lv_at hl 4 rfl) ?_
              refine lv_iconst (v := zI 2) hx hb dX7_search_116 rfl ?_
              refine z_iadd hx hb dX7_search_117 ?_
              refine z_re (e2 := (((4 * (2 * n + 1)) + 2 : Nat) : Int)) (by omega) ?_
              refine lv_dup2_11 hx hb dX7_search_118 rfl rfl ?_
              refine z_iald hx hb hK hP 3 0 rfl rfl ((4 * (2 * n + 1)) + 2) (by omega) (by omega) (by omega) dX7_search_119 ?_
              refine z_re (e2 := ((mm : Nat) : Int)) (by rw [q5, if_neg (by omega)]; exact (brw_at _ _ _).2.2.1) ?_
              refine lv_iconst (v := zI 1) hx hb dX7_search_120 rfl ?_
              refine z_iadd hx hb dX7_search_121 ?_
              refine z_re (e2 := ((mm + 1 : Nat) : Int)) (by omega) ?_
              refine z_iast hx hb hK hP hD hS 3 0 rfl rfl ((4 * (2 * n + 1)) + 2) (by omega) (by omega) (by omega) dX7_search_122 (fun H locs hP hD hS => ?_)
              have hP : va_P D vwCl [oM y b (((R : Nat) : Int)) (fm2) (kn) (pm0) (lm), aJ t (b 5) 16 (fd), aZ t (b 9) 30 (va_up Fo (2 * n + 1) 1), aI t (b 10) 120 (va_up (C) ((4 * (2 * n + 1)) + 2) (((mm + 1 : Nat) : Int)))] H := hP
              have hD : va_D AA [oM y b (((R : Nat) : Int)) (fm2) (kn) (pm0) (lm), aJ t (b 5) 16 (fd), aZ t (b 9) 30 (va_up Fo (2 * n + 1) 1), aI t (b 10) 120 (va_up (C) ((4 * (2 * n + 1)) + 2) (((mm + 1 : Nat) : Int)))] := hD
              refine lv_aload_n hx hb dX7_search_123 rfl (lv_at hl 1 rfl) ?_
              refine va_get (D := D) (ci := 6) (v := .ref (b 10)) (C := RX7) (T := TX7) (N := 16) hx hb hts iX7 hown hK hP 0 rfl rfl 15 (by decide) (hts (.fieldLink RX7 46 "CancelRowsModel" "bestRow" "[I") (by decide +kernel)) (fun _ h9 => h9) rfl dX7_search_124 ?_
              refine lv_iload_n hx hb dX7_search_127 rfl (lv_at hl 4 rfl) ?_
              refine lv_iconst (v := zI 3) hx hb dX7_search_128 rfl ?_
              refine z_iadd hx hb dX7_search_129 ?_
              refine z_re (e2 := (((4 * (2 * n + 1)) + 3 : Nat) : Int)) (by omega) ?_
              refine lv_dup2_11 hx hb dX7_search_130 rfl rfl ?_
              refine z_iald hx hb hK hP 3 0 rfl rfl ((4 * (2 * n + 1)) + 3) (by omega) (by omega) (by omega) dX7_search_131 ?_
              refine z_re (e2 := ((kd : Nat) : Int)) (by rw [q5, if_neg (by omega), show va_up (brw Be (4 * (2 * n + 1)) (v, l0, mm, kd)) ((4 * (2 * n + 1)) + 2) ((mm + 1 : Nat) : Int) ((4 * (2 * n + 1)) + 3) = brw Be (4 * (2 * n + 1)) (v, l0, mm, kd) ((4 * (2 * n + 1)) + 3) from if_neg (by omega)]; exact (brw_at _ _ _).2.2.2) ?_
              refine lv_aload_n hx hb dX7_search_132 rfl (lv_at hl 1 rfl) ?_
              refine lv_iload_n hx hb dX7_search_133 rfl (lv_at hl 2 rfl) ?_
              refine lv_iload hx hb dX7_search_134 (lv_at hl 6 rfl) ?_
              refine n_i2l (a := xx) hx hb (by omega) dX7_search_136 ?_
              have hPc := hP.sub (ws' := [oM y b (((R : Nat) : Int)) (fm2) (kn) (pm0) (lm), aJ t (b 5) 16 (fd)]) [0, 1] rfl
              have hDc := hD.sub (ws' := [oM y b (((R : Nat) : Int)) (fm2) (kn) (pm0) (lm), aJ t (b 5) 16 (fd)]) [0, 1] (by decide) rfl
              have hFc := va_free (wc := [oM y b (((R : Nat) : Int)) (fm2) (kn) (pm0) (lm), aJ t (b 5) 16 (fd)]) hD hS hA [0, 1] rfl
              refine va_calll (va_runV (As := [.int (zI (n)), .long (lN (xx))]) (rest := [.int (zI (((kd : Nat) : Int))), .int (zI ((((4 * (2 * n + 1)) + 3 : Nat) : Int))), .ref (b 10)]) ⟨hx, hb, hml, hown, hts⟩ (c_X7_turns l D t H.size y b R fm2 kn pm0 lm fd n xx (by omega) (by omega)) (cwV 2 hts gX7_search_X7_turns rfl rfl rfl (by decide +kernel) ⟨Nat.le_of_ble_eq_true rfl, Nat.le_of_ble_eq_true rfl⟩) ⟨fun a U g mk q => by obtain ⟨q0, q1, qP, qK, qD⟩ := q; exact ⟨q0, q1, qP, va_K.moved (u := U) (U := U.calling g mk a) (Vm.Alike.refl U.vm) qK, qD⟩, va_recv hK hPc (ci := 6) (q0 := 0) rfl rfl, fun U hU hW => ⟨rfl, by rw [hU], by rw [hU]; exact hPc, va_K.moved hW.alike hK, hDc.weaken (fun _ _ _ _ => trivial)⟩⟩ rfl rfl hl.1 rfl (lv_room (Nat.le_of_ble_eq_true rfl)) dX7_search_137 ⟨Nat.le_of_ble_eq_true rfl, Nat.le_of_ble_eq_true rfl⟩) hS (fun q _ h => hFc q h) hFc (fun r u tq H1 locs ht hvm hr137 hB hz1 hk1 hS => ?_)
              obtain ⟨fm3, fd3⟩ := u
              obtain ⟨hP1, hK1, hD1⟩ := hB
              rw [ht] at hP1
              obtain ⟨hP, hD⟩ := va_join (wr := [aZ t (b 9) 30 (va_up Fo (2 * n + 1) 1), aI t (b 10) 120 (va_up (C) ((4 * (2 * n + 1)) + 2) (((mm + 1 : Nat) : Int)))]) (w1 := [oM y b (((R : Nat) : Int)) (((fm3 : Nat) : Int)) (kn) (pm0) (lm), aJ t (b 5) 16 (fd3)]) hP hD [0, 1] [2, 3] rfl rfl (by decide) (by decide) hk1 hFc hP1 hD1
              generalize H1 = H at hP hS ⊢
              have hP : va_P D vwCl [aZ t (b 9) 30 (va_up Fo (2 * n + 1) 1), aI t (b 10) 120 (va_up (C) ((4 * (2 * n + 1)) + 2) (((mm + 1 : Nat) : Int))), oM y b (((R : Nat) : Int)) (((fm3 : Nat) : Int)) (kn) (pm0) (lm), aJ t (b 5) 16 (fd3)] H := hP
              have hD : va_D AA [aZ t (b 9) 30 (va_up Fo (2 * n + 1) 1), aI t (b 10) 120 (va_up (C) ((4 * (2 * n + 1)) + 2) (((mm + 1 : Nat) : Int))), oM y b (((R : Nat) : Int)) (((fm3 : Nat) : Int)) (kn) (pm0) (lm), aJ t (b 5) 16 (fd3)] := hD
              obtain ⟨rfl, hc3⟩ := hr137
              have b2 := ltw_lt (show xx < 2 ^ n by omega) 8
              refine lv_iload hx hb dX7_search_140 (lv_at hl 6 rfl) ?_
              refine n_i2l (a := xx) hx hb (by omega) dX7_search_142 ?_
              refine z_lcmp_ne (a := ((ltw n xx 8 : Nat) : Int)) (b := ((xx : Nat) : Int)) (tgt := 151) hx hb dX7_search_143 dX7_search_144 (by decide) (lN_toI (n := ltw n xx 8) (by omega)) (lN_toI (n := xx) (by omega)) (fun c143 => ?_) (fun c143 => ?_)
              · refine lv_iconst (v := zI 0) hx hb dX7_search_151 rfl ?_
                refine z_re (e2 := ((0 : Nat) : Int)) (rfl) ?_
                refine z_iadd hx hb dX7_search_152 ?_
                refine z_re (e2 := ((kd + 0 : Nat) : Int)) (by omega) ?_
                refine z_iast hx hb hK hP hD hS 1 0 rfl rfl ((4 * (2 * n + 1)) + 3) (by omega) (by omega) (by omega) dX7_search_153 (fun H locs hP hD hS => ?_)
                have hP : va_P D vwCl [aZ t (b 9) 30 (va_up Fo (2 * n + 1) 1), aI t (b 10) 120 (va_up (va_up (C) ((4 * (2 * n + 1)) + 2) (((mm + 1 : Nat) : Int))) ((4 * (2 * n + 1)) + 3) (((kd + 0 : Nat) : Int))), oM y b (((R : Nat) : Int)) (((fm3 : Nat) : Int)) (kn) (pm0) (lm), aJ t (b 5) 16 (fd3)] H := hP
                have hD : va_D AA [aZ t (b 9) 30 (va_up Fo (2 * n + 1) 1), aI t (b 10) 120 (va_up (va_up (C) ((4 * (2 * n + 1)) + 2) (((mm + 1 : Nat) : Int))) ((4 * (2 * n + 1)) + 3) (((kd + 0 : Nat) : Int))), oM y b (((R : Nat) : Int)) (((fm3 : Nat) : Int)) (kn) (pm0) (lm), aJ t (b 5) 16 (fd3)] := hD
                refine lv_iinc (v := zI (((xx + 1 : Nat) : Int))) (lv' := [(5, .int (zI (((xx + 1 : Nat) : Int)))), (6, .int (zI (fm n 1 xx))), (0, .ref y), (1, .int (zI (n))), (2, .int (zI (1))), (3, .int (zI ((((4 * (2 * n + 1)) : Nat) : Int)))), (4, .int (zI (v)))]) hx hb dX7_search_154 hl (k := 6) rfl (zI_incr (by omega)) (by decide) rfl (fun ls hl => ?_)
                refine lv_goto (tgt := 26) hx hb dX7_search_157 (by decide) ?_
                have hP := hP.sub (ws' := [oM y b (((R : Nat) : Int)) (((fm3 : Nat) : Int)) (kn) (pm0) (lm), aJ t (b 5) 16 (fd3), aZ t (b 9) 30 (va_up Fo (2 * n + 1) 1), aI t (b 10) 120 (va_up (va_up (C) ((4 * (2 * n + 1)) + 2) (((mm + 1 : Nat) : Int))) ((4 * (2 * n + 1)) + 3) (((kd + 0 : Nat) : Int)))]) [2, 3, 0, 1] rfl
                have hD := hD.sub (ws' := [oM y b (((R : Nat) : Int)) (((fm3 : Nat) : Int)) (kn) (pm0) (lm), aJ t (b 5) 16 (fd3), aZ t (b 9) 30 (va_up Fo (2 * n + 1) 1), aI t (b 10) 120 (va_up (va_up (C) ((4 * (2 * n + 1)) + 2) (((mm + 1 : Nat) : Int))) ((4 * (2 * n + 1)) + 3) (((kd + 0 : Nat) : Int)))]) [2, 3, 0, 1] (by decide) rfl
                exact ih26 (xx + 1) (v) (l0) (mm + 1) (kd + 0) (((fm3 : Nat) : Int)) (fd3) (va_up (va_up (C) ((4 * (2 * n + 1)) + 2) (((mm + 1 : Nat) : Int))) ((4 * (2 * n + 1)) + 3) (((kd + 0 : Nat) : Int))) (by omega) (by rw [bs_eq (by rw [q2]; exact c108), q2, show gm n xx = false from decide_eq_false (by omega)]; rfl) (by omega) (by omega) (by rw [if_neg (by omega), q5, if_neg (by omega)]; exact brw_upd _ _ _ _ _ _ _ _) (by omega) (by omega) _ _ hP hD hS _ (lv_sub hl [2, 3, 4, 5, 6, 0] rfl)
              · refine lv_iconst (v := zI 1) hx hb dX7_search_147 rfl ?_
                refine z_re (e2 := ((1 : Nat) : Int)) (rfl) ?_
                refine lv_goto (tgt := 152) hx hb dX7_search_148 (by decide) ?_
                refine z_iadd hx hb dX7_search_152 ?_
                refine z_re (e2 := ((kd + 1 : Nat) : Int)) (by omega) ?_
                refine z_iast hx hb hK hP hD hS 1 0 rfl rfl ((4 * (2 * n + 1)) + 3) (by omega) (by omega) (by omega) dX7_search_153 (fun H locs hP hD hS => ?_)
                have hP : va_P D vwCl [aZ t (b 9) 30 (va_up Fo (2 * n + 1) 1), aI t (b 10) 120 (va_up (va_up (C) ((4 * (2 * n + 1)) + 2) (((mm + 1 : Nat) : Int))) ((4 * (2 * n + 1)) + 3) (((kd + 1 : Nat) : Int))), oM y b (((R : Nat) : Int)) (((fm3 : Nat) : Int)) (kn) (pm0) (lm), aJ t (b 5) 16 (fd3)] H := hP
                have hD : va_D AA [aZ t (b 9) 30 (va_up Fo (2 * n + 1) 1), aI t (b 10) 120 (va_up (va_up (C) ((4 * (2 * n + 1)) + 2) (((mm + 1 : Nat) : Int))) ((4 * (2 * n + 1)) + 3) (((kd + 1 : Nat) : Int))), oM y b (((R : Nat) : Int)) (((fm3 : Nat) : Int)) (kn) (pm0) (lm), aJ t (b 5) 16 (fd3)] := hD
                refine lv_iinc (v := zI (((xx + 1 : Nat) : Int))) (lv' := [(5, .int (zI (((xx + 1 : Nat) : Int)))), (6, .int (zI (fm n 1 xx))), (0, .ref y), (1, .int (zI (n))), (2, .int (zI (1))), (3, .int (zI ((((4 * (2 * n + 1)) : Nat) : Int)))), (4, .int (zI (v)))]) hx hb dX7_search_154 hl (k := 6) rfl (zI_incr (by omega)) (by decide) rfl (fun ls hl => ?_)
                refine lv_goto (tgt := 26) hx hb dX7_search_157 (by decide) ?_
                have hP := hP.sub (ws' := [oM y b (((R : Nat) : Int)) (((fm3 : Nat) : Int)) (kn) (pm0) (lm), aJ t (b 5) 16 (fd3), aZ t (b 9) 30 (va_up Fo (2 * n + 1) 1), aI t (b 10) 120 (va_up (va_up (C) ((4 * (2 * n + 1)) + 2) (((mm + 1 : Nat) : Int))) ((4 * (2 * n + 1)) + 3) (((kd + 1 : Nat) : Int)))]) [2, 3, 0, 1] rfl
                have hD := hD.sub (ws' := [oM y b (((R : Nat) : Int)) (((fm3 : Nat) : Int)) (kn) (pm0) (lm), aJ t (b 5) 16 (fd3), aZ t (b 9) 30 (va_up Fo (2 * n + 1) 1), aI t (b 10) 120 (va_up (va_up (C) ((4 * (2 * n + 1)) + 2) (((mm + 1 : Nat) : Int))) ((4 * (2 * n + 1)) + 3) (((kd + 1 : Nat) : Int)))]) [2, 3, 0, 1] (by decide) rfl
                exact ih26 (xx + 1) (v) (l0) (mm + 1) (kd + 1) (((fm3 : Nat) : Int)) (fd3) (va_up (va_up (C) ((4 * (2 * n + 1)) + 2) (((mm + 1 : Nat) : Int))) ((4 * (2 * n + 1)) + 3) (((kd + 1 : Nat) : Int))) (by omega) (by rw [bs_eq (by rw [q2]; exact c108), q2, show gm n xx = true from decide_eq_true (by omega)]; rfl) (by omega) (by omega) (by rw [if_neg (by omega), q5, if_neg (by omega)]; exact brw_upd _ _ _ _ _ _ _ _) (by omega) (by omega) _ _ hP hD hS _ (lv_sub hl [2, 3, 4, 5, 6, 0] rfl)
          · refine lv_iload hx hb dX7_search_64 (lv_at hl 0 rfl) ?_
            refine lv_istore (lv' := [(4, .int (zI (fm n 1 xx))), (6, .int (zI (fm n 1 xx))), (0, .ref y), (1, .int (zI (n))), (2, .int (zI (1))), (3, .int (zI ((((4 * (2 * n + 1)) : Nat) : Int)))), (5, .int (zI (((xx : Nat) : Int))))]) hx hb dX7_search_66 hl (by decide) rfl (fun ls hl => ?_)
            refine lv_aload_n hx hb dX7_search_68 rfl (lv_at hl 2 rfl) ?_
            refine va_get (D := D) (ci := 6) (v := .ref (b 10)) (C := RX7) (T := TX7) (N := 16) hx hb hts iX7 hown hK hP 0 rfl rfl 15 (by decide) (hts (.fieldLink RX7 46 "CancelRowsModel" "bestRow" "[I") (by decide +kernel)) (fun _ h9 => h9) rfl dX7_search_69 ?_
            refine lv_iload_n hx hb dX7_search_72 rfl (lv_at hl 5 rfl) ?_
            refine lv_iload hx hb dX7_search_73 (lv_at hl 1 rfl) ?_
            refine z_iast hx hb hK hP hD hS 3 0 rfl rfl ((4 * (2 * n + 1))) (by omega) (by omega) (by omega) dX7_search_75 (fun H locs hP hD hS => ?_)
            have hP : va_P D vwCl [oM y b (((R : Nat) : Int)) (fm2) (kn) (pm0) (lm), aJ t (b 5) 16 (fd), aZ t (b 9) 30 (va_up Fo (2 * n + 1) 1), aI t (b 10) 120 (va_up (C) ((4 * (2 * n + 1))) (fm n 1 xx))] H := hP
            have hD : va_D AA [oM y b (((R : Nat) : Int)) (fm2) (kn) (pm0) (lm), aJ t (b 5) 16 (fd), aZ t (b 9) 30 (va_up Fo (2 * n + 1) 1), aI t (b 10) 120 (va_up (C) ((4 * (2 * n + 1))) (fm n 1 xx))] := hD
            refine lv_aload_n hx hb dX7_search_76 rfl (lv_at hl 2 rfl) ?_
            refine va_get (D := D) (ci := 6) (v := .ref (b 10)) (C := RX7) (T := TX7) (N := 16) hx hb hts iX7 hown hK hP 0 rfl rfl 15 (by decide) (hts (.fieldLink RX7 46 "CancelRowsModel" "bestRow" "[I") (by decide +kernel)) (fun _ h9 => h9) rfl dX7_search_77 ?_
            refine lv_iload_n hx hb dX7_search_80 rfl (lv_at hl 5 rfl) ?_
            refine lv_iconst (v := zI 1) hx hb dX7_search_81 rfl ?_
            refine z_iadd hx hb dX7_search_82 ?_
            refine z_re (e2 := (((4 * (2 * n + 1)) + 1 : Nat) : Int)) (by omega) ?_
            refine lv_iload hx hb dX7_search_83 (lv_at hl 6 rfl) ?_
            refine z_iast hx hb hK hP hD hS 3 0 rfl rfl ((4 * (2 * n + 1)) + 1) (by omega) (by omega) (by omega) dX7_search_85 (fun H locs hP hD hS => ?_)
            have hP : va_P D vwCl [oM y b (((R : Nat) : Int)) (fm2) (kn) (pm0) (lm), aJ t (b 5) 16 (fd), aZ t (b 9) 30 (va_up Fo (2 * n + 1) 1), aI t (b 10) 120 (va_up (va_up (C) ((4 * (2 * n + 1))) (fm n 1 xx)) ((4 * (2 * n + 1)) + 1) (((xx : Nat) : Int)))] H := hP
            have hD : va_D AA [oM y b (((R : Nat) : Int)) (fm2) (kn) (pm0) (lm), aJ t (b 5) 16 (fd), aZ t (b 9) 30 (va_up Fo (2 * n + 1) 1), aI t (b 10) 120 (va_up (va_up (C) ((4 * (2 * n + 1))) (fm n 1 xx)) ((4 * (2 * n + 1)) + 1) (((xx : Nat) : Int)))] := hD
            refine lv_aload_n hx hb dX7_search_86 rfl (lv_at hl 2 rfl) ?_
            refine va_get (D := D) (ci := 6) (v := .ref (b 10)) (C := RX7) (T := TX7) (N := 16) hx hb hts iX7 hown hK hP 0 rfl rfl 15 (by decide) (hts (.fieldLink RX7 46 "CancelRowsModel" "bestRow" "[I") (by decide +kernel)) (fun _ h9 => h9) rfl dX7_search_87 ?_
            refine lv_iload_n hx hb dX7_search_90 rfl (lv_at hl 5 rfl) ?_
            refine lv_iconst (v := zI 2) hx hb dX7_search_91 rfl ?_
            refine z_iadd hx hb dX7_search_92 ?_
            refine z_re (e2 := (((4 * (2 * n + 1)) + 2 : Nat) : Int)) (by omega) ?_
            refine lv_iconst (v := zI 0) hx hb dX7_search_93 rfl ?_
            refine z_iast hx hb hK hP hD hS 3 0 rfl rfl ((4 * (2 * n + 1)) + 2) (by omega) (by omega) (by omega) dX7_search_94 (fun H locs hP hD hS => ?_)
            have hP : va_P D vwCl [oM y b (((R : Nat) : Int)) (fm2) (kn) (pm0) (lm), aJ t (b 5) 16 (fd), aZ t (b 9) 30 (va_up Fo (2 * n + 1) 1), aI t (b 10) 120 (va_up (va_up (va_up (C) ((4 * (2 * n + 1))) (fm n 1 xx)) ((4 * (2 * n + 1)) + 1) (((xx : Nat) : Int))) ((4 * (2 * n + 1)) + 2) (0))] H := hP
            have hD : va_D AA [oM y b (((R : Nat) : Int)) (fm2) (kn) (pm0) (lm), aJ t (b 5) 16 (fd), aZ t (b 9) 30 (va_up Fo (2 * n + 1) 1), aI t (b 10) 120 (va_up (va_up (va_up (C) ((4 * (2 * n + 1))) (fm n 1 xx)) ((4 * (2 * n + 1)) + 1) (((xx : Nat) : Int))) ((4 * (2 * n + 1)) + 2) (0))] := hD
            refine lv_aload_n hx hb dX7_search_95 rfl (lv_at hl 2 rfl) ?_
            refine va_get (D := D) (ci := 6) (v := .ref (b 10)) (C := RX7) (T := TX7) (N := 16) hx hb hts iX7 hown hK hP 0 rfl rfl 15 (by decide) (hts (.fieldLink RX7 46 "CancelRowsModel" "bestRow" "[I") (by decide +kernel)) (fun _ h9 => h9) rfl dX7_search_96 ?_
            refine lv_iload_n hx hb dX7_search_99 rfl (lv_at hl 5 rfl) ?_
            refine lv_iconst (v := zI 3) hx hb dX7_search_100 rfl ?_
            refine z_iadd hx hb dX7_search_101 ?_
            refine z_re (e2 := (((4 * (2 * n + 1)) + 3 : Nat) : Int)) (by omega) ?_
            refine lv_iconst (v := zI 0) hx hb dX7_search_102 rfl ?_
            refine z_iast hx hb hK hP hD hS 3 0 rfl rfl ((4 * (2 * n + 1)) + 3) (by omega) (by omega) (by omega) dX7_search_103 (fun H locs hP hD hS => ?_)
            have hP : va_P D vwCl [oM y b (((R : Nat) : Int)) (fm2) (kn) (pm0) (lm), aJ t (b 5) 16 (fd), aZ t (b 9) 30 (va_up Fo (2 * n + 1) 1), aI t (b 10) 120 (va_up (va_up (va_up (va_up (C) ((4 * (2 * n + 1))) (fm n 1 xx)) ((4 * (2 * n + 1)) + 1) (((xx : Nat) : Int))) ((4 * (2 * n + 1)) + 2) (0)) ((4 * (2 * n + 1)) + 3) (0))] H := hP
            have hD : va_D AA [oM y b (((R : Nat) : Int)) (fm2) (kn) (pm0) (lm), aJ t (b 5) 16 (fd), aZ t (b 9) 30 (va_up Fo (2 * n + 1) 1), aI t (b 10) 120 (va_up (va_up (va_up (va_up (C) ((4 * (2 * n + 1))) (fm n 1 xx)) ((4 * (2 * n + 1)) + 1) (((xx : Nat) : Int))) ((4 * (2 * n + 1)) + 2) (0)) ((4 * (2 * n + 1)) + 3) (0))] := hD
            refine lv_iload hx hb dX7_search_104 (lv_at hl 1 rfl) ?_
            refine lv_iload hx hb dX7_search_106 (lv_at hl 0 rfl) ?_
            refine z_icmp_ne (tgt := 154) hx hb dX7_search_108 (by decide) (by omega) (by omega) (fun c108 => ?_) (fun c108 => ?_)
            · exact absurd rfl c108
            · refine lv_aload_n hx hb dX7_search_111 rfl (lv_at hl 2 rfl) ?_
              refine va_get (D := D) (ci := 6) (v := .ref (b 10)) (C := RX7) (T := TX7) (N := 16) hx hb hts iX7 hown hK hP 0 rfl rfl 15 (by decide) (hts (.fieldLink RX7 46 "CancelRowsModel" "bestRow" "[I") (by decide +kernel)) (fun _ h9 => h9) rfl dX7_search_112 ?_
              refine lv_iload_n hx hb dX7_search_115 rfl (lv_at hl 5 rfl) ?_
              refine lv_iconst (v := zI 2) hx hb dX7_search_116 rfl ?_
              refine z_iadd hx hb dX7_search_117 ?_
              refine z_re (e2 := (((4 * (2 * n + 1)) + 2 : Nat) : Int)) (by omega) ?_
              refine lv_dup2_11 hx hb dX7_search_118 rfl rfl ?_
              refine z_iald hx hb hK hP 3 0 rfl rfl ((4 * (2 * n + 1)) + 2) (by omega) (by omega) (by omega) dX7_search_119 ?_
              refine z_re (e2 := ((0 : Nat) : Int)) (by simp [va_up]) ?_
              refine lv_iconst (v := zI 1) hx hb dX7_search_120 rfl ?_
              refine z_iadd hx hb dX7_search_121 ?_
              refine z_re (e2 := ((1 : Nat) : Int)) (by omega) ?_
              refine z_iast hx hb hK hP hD hS 3 0 rfl rfl ((4 * (2 * n + 1)) + 2) (by omega) (by omega) (by omega) dX7_search_122 (fun H locs hP hD hS => ?_)
              have hP : va_P D vwCl [oM y b (((R : Nat) : Int)) (fm2) (kn) (pm0) (lm), aJ t (b 5) 16 (fd), aZ t (b 9) 30 (va_up Fo (2 * n + 1) 1), aI t (b 10) 120 (va_up (va_up (va_up (va_up (va_up (C) ((4 * (2 * n + 1))) (fm n 1 xx)) ((4 * (2 * n + 1)) + 1) (((xx : Nat) : Int))) ((4 * (2 * n + 1)) + 2) (0)) ((4 * (2 * n + 1)) + 3) (0)) ((4 * (2 * n + 1)) + 2) (((1 : Nat) : Int)))] H := hP
              have hD : va_D AA [oM y b (((R : Nat) : Int)) (fm2) (kn) (pm0) (lm), aJ t (b 5) 16 (fd), aZ t (b 9) 30 (va_up Fo (2 * n + 1) 1), aI t (b 10) 120 (va_up (va_up (va_up (va_up (va_up (C) ((4 * (2 * n + 1))) (fm n 1 xx)) ((4 * (2 * n + 1)) + 1) (((xx : Nat) : Int))) ((4 * (2 * n + 1)) + 2) (0)) ((4 * (2 * n + 1)) + 3) (0)) ((4 * (2 * n + 1)) + 2) (((1 : Nat) : Int)))] := hD
              refine lv_aload_n hx hb dX7_search_123 rfl (lv_at hl 2 rfl) ?_
              refine va_get (D := D) (ci := 6) (v := .ref (b 10)) (C := RX7) (T := TX7) (N := 16) hx hb hts iX7 hown hK hP 0 rfl rfl 15 (by decide) (hts (.fieldLink RX7 46 "CancelRowsModel" "bestRow" "[I") (by decide +kernel)) (fun _ h9 => h9) rfl dX7_search_124 ?_
              refine lv_iload_n hx hb dX7_search_127 rfl (lv_at hl 5 rfl) ?_
              refine lv_iconst (v := zI 3) hx hb dX7_search_128 rfl ?_
              refine z_iadd hx hb dX7_search_129 ?_
              refine z_re (e2 := (((4 * (2 * n + 1)) + 3 : Nat) : Int)) (by omega) ?_
              refine lv_dup2_11 hx hb dX7_search_130 rfl rfl ?_
              refine z_iald hx hb hK hP 3 0 rfl rfl ((4 * (2 * n + 1)) + 3) (by omega) (by omega) (by omega) dX7_search_131 ?_
              refine z_re (e2 := ((0 : Nat) : Int)) (by simp [va_up]) ?_
              refine lv_aload_n hx hb dX7_search_132 rfl (lv_at hl 2 rfl) ?_
              refine lv_iload_n hx hb dX7_search_133 rfl (lv_at hl 3 rfl) ?_
              refine lv_iload hx hb dX7_search_134 (lv_at hl 6 rfl) ?_
              refine n_i2l (a := xx) hx hb (by omega) dX7_search_136 ?_
              have hPc := hP.sub (ws' := [oM y b (((R : Nat) : Int)) (fm2) (kn) (pm0) (lm), aJ t (b 5) 16 (fd)]) [0, 1] rfl
              have hDc := hD.sub (ws' := [oM y b (((R : Nat) : Int)) (fm2) (kn) (pm0) (lm), aJ t (b 5) 16 (fd)]) [0, 1] (by decide) rfl
              have hFc := va_free (wc := [oM y b (((R : Nat) : Int)) (fm2) (kn) (pm0) (lm), aJ t (b 5) 16 (fd)]) hD hS hA [0, 1] rfl
              refine va_calll (va_runV (As := [.int (zI (n)), .long (lN (xx))]) (rest := [.int (zI (((0 : Nat) : Int))), .int (zI ((((4 * (2 * n + 1)) + 3 : Nat) : Int))), .ref (b 10)]) ⟨hx, hb, hml, hown, hts⟩ (c_X7_turns l D t H.size y b R fm2 kn pm0 lm fd n xx (by omega) (by omega)) (cwV 2 hts gX7_search_X7_turns rfl rfl rfl (by decide +kernel) ⟨Nat.le_of_ble_eq_true rfl, Nat.le_of_ble_eq_true rfl⟩) ⟨fun a U g mk q => by obtain ⟨q0, q1, qP, qK, qD⟩ := q; exact ⟨q0, q1, qP, va_K.moved (u := U) (U := U.calling g mk a) (Vm.Alike.refl U.vm) qK, qD⟩, va_recv hK hPc (ci := 6) (q0 := 0) rfl rfl, fun U hU hW => ⟨rfl, by rw [hU], by rw [hU]; exact hPc, va_K.moved hW.alike hK, hDc.weaken (fun _ _ _ _ => trivial)⟩⟩ rfl rfl hl.1 rfl (lv_room (Nat.le_of_ble_eq_true rfl)) dX7_search_137 ⟨Nat.le_of_ble_eq_true rfl, Nat.le_of_ble_eq_true rfl⟩) hS (fun q _ h => hFc q h) hFc (fun r u tq H1 locs ht hvm hr137 hB hz1 hk1 hS => ?_)
              obtain ⟨fm3, fd3⟩ := u
              obtain ⟨hP1, hK1, hD1⟩ := hB
              rw [ht] at hP1
              obtain ⟨hP, hD⟩ := va_join (wr := [aZ t (b 9) 30 (va_up Fo (2 * n + 1) 1), aI t (b 10) 120 (va_up (va_up (va_up (va_up (va_up (C) ((4 * (2 * n + 1))) (fm n 1 xx)) ((4 * (2 * n + 1)) + 1) (((xx : Nat) : Int))) ((4 * (2 * n + 1)) + 2) (0)) ((4 * (2 * n + 1)) + 3) (0)) ((4 * (2 * n + 1)) + 2) (((1 : Nat) : Int)))]) (w1 := [oM y b (((R : Nat) : Int)) (((fm3 : Nat) : Int)) (kn) (pm0) (lm), aJ t (b 5) 16 (fd3)]) hP hD [0, 1] [2, 3] rfl rfl (by decide) (by decide) hk1 hFc hP1 hD1
              generalize H1 = H at hP hS ⊢
              have hP : va_P D vwCl [aZ t (b 9) 30 (va_up Fo (2 * n + 1) 1), aI t (b 10) 120 (va_up (va_up (va_up (va_up (va_up (C) ((4 * (2 * n + 1))) (fm n 1 xx)) ((4 * (2 * n + 1)) + 1) (((xx : Nat) : Int))) ((4 * (2 * n + 1)) + 2) (0)) ((4 * (2 * n + 1)) + 3) (0)) ((4 * (2 * n + 1)) + 2) (((1 : Nat) : Int))), oM y b (((R : Nat) : Int)) (((fm3 : Nat) : Int)) (kn) (pm0) (lm), aJ t (b 5) 16 (fd3)] H := hP
              have hD : va_D AA [aZ t (b 9) 30 (va_up Fo (2 * n + 1) 1), aI t (b 10) 120 (va_up (va_up (va_up (va_up (va_up (C) ((4 * (2 * n + 1))) (fm n 1 xx)) ((4 * (2 * n + 1)) + 1) (((xx : Nat) : Int))) ((4 * (2 * n + 1)) + 2) (0)) ((4 * (2 * n + 1)) + 3) (0)) ((4 * (2 * n + 1)) + 2) (((1 : Nat) : Int))), oM y b (((R : Nat) : Int)) (((fm3 : Nat) : Int)) (kn) (pm0) (lm), aJ t (b 5) 16 (fd3)] := hD
              obtain ⟨rfl, hc3⟩ := hr137
              have b2 := ltw_lt (show xx < 2 ^ n by omega) 8
              refine lv_iload hx hb dX7_search_140 (lv_at hl 6 rfl) ?_
              refine n_i2l (a := xx) hx hb (by omega) dX7_search_142 ?_
              refine z_lcmp_ne (a := ((ltw n xx 8 : Nat) : Int)) (b := ((xx : Nat) : Int)) (tgt := 151) hx hb dX7_search_143 dX7_search_144 (by decide) (lN_toI (n := ltw n xx 8) (by omega)) (lN_toI (n := xx) (by omega)) (fun c143 => ?_) (fun c143 => ?_)
              · refine lv_iconst (v := zI 0) hx hb dX7_search_151 rfl ?_
                refine z_re (e2 := ((0 : Nat) : Int)) (rfl) ?_
                refine z_iadd hx hb dX7_search_152 ?_
                refine z_re (e2 := ((0 : Nat) : Int)) (by omega) ?_
                refine z_iast hx hb hK hP hD hS 1 0 rfl rfl ((4 * (2 * n + 1)) + 3) (by omega) (by omega) (by omega) dX7_search_153 (fun H locs hP hD hS => ?_)
                have hP : va_P D vwCl [aZ t (b 9) 30 (va_up Fo (2 * n + 1) 1), aI t (b 10) 120 (va_up (va_up (va_up (va_up (va_up (va_up (C) ((4 * (2 * n + 1))) (fm n 1 xx)) ((4 * (2 * n + 1)) + 1) (((xx : Nat) : Int))) ((4 * (2 * n + 1)) + 2) (0)) ((4 * (2 * n + 1)) + 3) (0)) ((4 * (2 * n + 1)) + 2) (((1 : Nat) : Int))) ((4 * (2 * n + 1)) + 3) (((0 : Nat) : Int))), oM y b (((R : Nat) : Int)) (((fm3 : Nat) : Int)) (kn) (pm0) (lm), aJ t (b 5) 16 (fd3)] H := hP
                have hD : va_D AA [aZ t (b 9) 30 (va_up Fo (2 * n + 1) 1), aI t (b 10) 120 (va_up (va_up (va_up (va_up (va_up (va_up (C) ((4 * (2 * n + 1))) (fm n 1 xx)) ((4 * (2 * n + 1)) + 1) (((xx : Nat) : Int))) ((4 * (2 * n + 1)) + 2) (0)) ((4 * (2 * n + 1)) + 3) (0)) ((4 * (2 * n + 1)) + 2) (((1 : Nat) : Int))) ((4 * (2 * n + 1)) + 3) (((0 : Nat) : Int))), oM y b (((R : Nat) : Int)) (((fm3 : Nat) : Int)) (kn) (pm0) (lm), aJ t (b 5) 16 (fd3)] := hD
                refine lv_iinc (v := zI (((xx + 1 : Nat) : Int))) (lv' := [(5, .int (zI (((xx + 1 : Nat) : Int)))), (4, .int (zI (fm n 1 xx))), (6, .int (zI (fm n 1 xx))), (0, .ref y), (1, .int (zI (n))), (2, .int (zI (1))), (3, .int (zI ((((4 * (2 * n + 1)) : Nat) : Int))))]) hx hb dX7_search_154 hl (k := 6) rfl (zI_incr (by omega)) (by decide) rfl (fun ls hl => ?_)
                refine lv_goto (tgt := 26) hx hb dX7_search_157 (by decide) ?_
                have hP := hP.sub (ws' := [oM y b (((R : Nat) : Int)) (((fm3 : Nat) : Int)) (kn) (pm0) (lm), aJ t (b 5) 16 (fd3), aZ t (b 9) 30 (va_up Fo (2 * n + 1) 1), aI t (b 10) 120 (va_up (va_up (va_up (va_up (va_up (va_up (C) ((4 * (2 * n + 1))) (fm n 1 xx)) ((4 * (2 * n + 1)) + 1) (((xx : Nat) : Int))) ((4 * (2 * n + 1)) + 2) (0)) ((4 * (2 * n + 1)) + 3) (0)) ((4 * (2 * n + 1)) + 2) (((1 : Nat) : Int))) ((4 * (2 * n + 1)) + 3) (((0 : Nat) : Int)))]) [2, 3, 0, 1] rfl
                have hD := hD.sub (ws' := [oM y b (((R : Nat) : Int)) (((fm3 : Nat) : Int)) (kn) (pm0) (lm), aJ t (b 5) 16 (fd3), aZ t (b 9) 30 (va_up Fo (2 * n + 1) 1), aI t (b 10) 120 (va_up (va_up (va_up (va_up (va_up (va_up (C) ((4 * (2 * n + 1))) (fm n 1 xx)) ((4 * (2 * n + 1)) + 1) (((xx : Nat) : Int))) ((4 * (2 * n + 1)) + 2) (0)) ((4 * (2 * n + 1)) + 3) (0)) ((4 * (2 * n + 1)) + 2) (((1 : Nat) : Int))) ((4 * (2 * n + 1)) + 3) (((0 : Nat) : Int)))]) [2, 3, 0, 1] (by decide) rfl
                exact ih26 (xx + 1) (fm n 1 xx) (xx) (1) (0) (((fm3 : Nat) : Int)) (fd3) (va_up (va_up (va_up (va_up (va_up (va_up (C) ((4 * (2 * n + 1))) (fm n 1 xx)) ((4 * (2 * n + 1)) + 1) (((xx : Nat) : Int))) ((4 * (2 * n + 1)) + 2) (0)) ((4 * (2 * n + 1)) + 3) (0)) ((4 * (2 * n + 1)) + 2) (((1 : Nat) : Int))) ((4 * (2 * n + 1)) + 3) (((0 : Nat) : Int))) (by omega) (by rw [bs_lt (by rw [q2]; exact c61), show gm n xx = false from decide_eq_false (by omega)]; rfl) (by omega) (by omega) (by rw [if_neg (by omega), ← brw_if q5]; exact brw_new _ _ _ _ _ _ _ _) (by omega) (by omega) _ _ hP hD hS _ (lv_sub hl [3, 4, 5, 6, 1, 0] rfl)
              · refine lv_iconst (v := zI 1) hx hb dX7_search_147 rfl ?_
                refine z_re (e2 := ((1 : Nat) : Int)) (rfl) ?_
                refine lv_goto (tgt := 152) hx hb dX7_search_148 (by decide) ?_
                refine z_iadd hx hb dX7_search_152 ?_
                refine z_re (e2 := ((1 : Nat) : Int)) (by omega) ?_
                refine z_iast hx hb hK hP hD hS 1 0 rfl rfl ((4 * (2 * n + 1)) + 3) (by omega) (by omega) (by omega) dX7_search_153 (fun H locs hP hD hS => ?_)
                have hP : va_P D vwCl [aZ t (b 9) 30 (va_up Fo (2 * n + 1) 1), aI t (b 10) 120 (va_up (va_up (va_up (va_up (va_up (va_up (C) ((4 * (2 * n + 1))) (fm n 1 xx)) ((4 * (2 * n + 1)) + 1) (((xx : Nat) : Int))) ((4 * (2 * n + 1)) + 2) (0)) ((4 * (2 * n + 1)) + 3) (0)) ((4 * (2 * n + 1)) + 2) (((1 : Nat) : Int))) ((4 * (2 * n + 1)) + 3) (((1 : Nat) : Int))), oM y b (((R : Nat) : Int)) (((fm3 : Nat) : Int)) (kn) (pm0) (lm), aJ t (b 5) 16 (fd3)] H := hP
                have hD : va_D AA [aZ t (b 9) 30 (va_up Fo (2 * n + 1) 1), aI t (b 10) 120 (va_up (va_up (va_up (va_up (va_up (va_up (C) ((4 * (2 * n + 1))) (fm n 1 xx)) ((4 * (2 * n + 1)) + 1) (((xx : Nat) : Int))) ((4 * (2 * n + 1)) + 2) (0)) ((4 * (2 * n + 1)) + 3) (0)) ((4 * (2 * n + 1)) + 2) (((1 : Nat) : Int))) ((4 * (2 * n + 1)) + 3) (((1 : Nat) : Int))), oM y b (((R : Nat) : Int)) (((fm3 : Nat) : Int)) (kn) (pm0) (lm), aJ t (b 5) 16 (fd3)] := hD
                refine lv_iinc (v := zI (((xx + 1 : Nat) : Int))) (lv' := [(5, .int (zI (((xx + 1 : Nat) : Int)))), (4, .int (zI (fm n 1 xx))), (6, .int (zI (fm n 1 xx))), (0, .ref y), (1, .int (zI (n))), (2, .int (zI (1))), (3, .int (zI ((((4 * (2 * n + 1)) : Nat) : Int))))]) hx hb dX7_search_154 hl (k := 6) rfl (zI_incr (by omega)) (by decide) rfl (fun ls hl => ?_)
                refine lv_goto (tgt := 26) hx hb dX7_search_157 (by decide) ?_
                have hP := hP.sub (ws' := [oM y b (((R : Nat) : Int)) (((fm3 : Nat) : Int)) (kn) (pm0) (lm), aJ t (b 5) 16 (fd3), aZ t (b 9) 30 (va_up Fo (2 * n + 1) 1), aI t (b 10) 120 (va_up (va_up (va_up (va_up (va_up (va_up (C) ((4 * (2 * n + 1))) (fm n 1 xx)) ((4 * (2 * n + 1)) + 1) (((xx : Nat) : Int))) ((4 * (2 * n + 1)) + 2) (0)) ((4 * (2 * n + 1)) + 3) (0)) ((4 * (2 * n + 1)) + 2) (((1 : Nat) : Int))) ((4 * (2 * n + 1)) + 3) (((1 : Nat) : Int)))]) [2, 3, 0, 1] rfl
                have hD := hD.sub (ws' := [oM y b (((R : Nat) : Int)) (((fm3 : Nat) : Int)) (kn) (pm0) (lm), aJ t (b 5) 16 (fd3), aZ t (b 9) 30 (va_up Fo (2 * n + 1) 1), aI t (b 10) 120 (va_up (va_up (va_up (va_up (va_up (va_up (C) ((4 * (2 * n + 1))) (fm n 1 xx)) ((4 * (2 * n + 1)) + 1) (((xx : Nat) : Int))) ((4 * (2 * n + 1)) + 2) (0)) ((4 * (2 * n + 1)) + 3) (0)) ((4 * (2 * n + 1)) + 2) (((1 : Nat) : Int))) ((4 * (2 * n + 1)) + 3) (((1 : Nat) : Int)))]) [2, 3, 0, 1] (by decide) rfl
                exact ih26 (xx + 1) (fm n 1 xx) (xx) (1) (1) (((fm3 : Nat) : Int)) (fd3) (va_up (va_up (va_up (va_up (va_up (va_up (C) ((4 * (2 * n + 1))) (fm n 1 xx)) ((4 * (2 * n + 1)) + 1) (((xx : Nat) : Int))) ((4 * (2 * n + 1)) + 2) (0)) ((4 * (2 * n + 1)) + 3) (0)) ((4 * (2 * n + 1)) + 2) (((1 : Nat) : Int))) ((4 * (2 * n + 1)) + 3) (((1 : Nat) : Int))) (by omega) (by rw [bs_lt (by rw [q2]; exact c61), show gm n xx = true from decide_eq_true (by omega)]; rfl) (by omega) (by omega) (by rw [if_neg (by omega), ← brw_if q5]; exact brw_new _ _ _ _ _ _ _ _) (by omega) (by omega) _ _ hP hD hS _ (lv_sub hl [3, 4, 5, 6, 1, 0] rfl)
        · exact absurd c35 (by decide)
  exact lp26 _ (0) (1000000) (0) (0) (0) (fm1) (fd0) (Be) (by omega) (rfl) (by omega) (by omega) (rfl) (fun _ => rfl) (Nat.lt_succ_self _) _ _ hP hD hS _ (lv_sub hl [3, 4, 5, 2, 1, 0] rfl)

-- the check: best
set_option maxHeartbeats 4000000 in
set_option maxRecDepth 100000 in
theorem c_X7_best (l : Launch) (D : va_G) (t : Nat → ClassId) (sz : Nat) (y : Nat) (b : Nat → Nat) (R : Nat) (fm1 kn pm0 lm : Int) (fd0 : Nat → Nat) (Fo Be : Nat → Int) (gB : bOK Fo Be) (n way what : Int) (gn : -2147483648 ≤ n ∧ n < 2147483648) (gway : -2147483648 ≤ way ∧ way < 2147483648) (gwhat : -2147483648 ≤ what ∧ what < 2147483648) : Met l yX7_best wsX7_best ({ frames := 4, cells := 0, slots := 0, locals := 107 }) (va_Pc [.ref y, .int (zI (n)), .int (zI (way)), .int (zI (what))] (fun U => U.heap.size = sz ∧ va_P D vwCl ([oM y b (((R : Nat) : Int)) (fm1) (kn) (pm0) (lm), aJ t (b 5) 16 (fd0), aZ t (b 9) 30 (Fo), aI t (b 10) 120 (Be)]) U.heap ∧ va_K D vwCl (TY t) U ∧ va_D (fun _ => True) ([oM y b (((R : Nat) : Int)) (fm1) (kn) (pm0) (lm), aJ t (b 5) 16 (fd0), aZ t (b 9) 30 (Fo), aI t (b 10) 120 (Be)]))) (va_Qi (fun r (u : Int × (Nat → Nat) × (Nat → Int) × (Nat → Int)) => r = zI (sp_best n way what) ∧ bOK u.2.2.1 u.2.2.2) (fun (u : Int × (Nat → Nat) × (Nat → Int) × (Nat → Int)) t1 => va_P D vwCl ([oM y b (((R : Nat) : Int)) (u.1) (kn) (pm0) (lm), aJ t (b 5) 16 (u.2.1), aZ t (b 9) 30 (u.2.2.1), aI t (b 10) 120 (u.2.2.2)]) t1.heap ∧ va_K D vwCl (TY t) t1 ∧ va_D (va_A ([oM y b (((R : Nat) : Int)) (fm1) (kn) (pm0) (lm), aJ t (b 5) 16 (fd0), aZ t (b 9) 30 (Fo), aI t (b 10) 120 (Be)]) sz) ([oM y b (((R : Nat) : Int)) (u.1) (kn) (pm0) (lm), aJ t (b 5) 16 (u.2.1), aZ t (b 9) 30 (u.2.2.1), aI t (b 10) 120 (u.2.2.2)])) (va_A ([oM y b (((R : Nat) : Int)) (fm1) (kn) (pm0) (lm), aJ t (b 5) 16 (fd0), aZ t (b 9) 30 (Fo), aI t (b 10) 120 (Be)]) sz)) 0 0 (va_A ([oM y b (((R : Nat) : Int)) (fm1) (kn) (pm0) (lm), aJ t (b 5) 16 (fd0), aZ t (b 9) 30 (Fo), aI t (b 10) 120 (Be)]) sz) := by
  refine Met.ofW (cc := cX7_best) (maxL := 4) (ret := (some .int)) (by decide) rfl ?_
  intro p e s m args below meth c s₁ B hml hv
  obtain ⟨rfl, hsz, hP, hK, hD0⟩ := hv
  have hx := B.exec
  have hb := B.bytes
  have hr := B.returns
  have hts := atoms_spec (ws := wsX7_best) B.pre
  have hown : s.vm.findClass RX7 = some m.cls := findClass_of_methodNamed B.named
  have hlocks := B.notSynchronized
  subst hsz
  have hD := hD0.self (sz := s.heap.size)
  generalize hAe : va_A ([oM y b (((R : Nat) : Int)) (fm1) (kn) (pm0) (lm), aJ t (b 5) 16 (fd0), aZ t (b 9) 30 (Fo), aI t (b 10) 120 (Be)]) s.heap.size = AA at hD ⊢
  have hA : ∀ q : Nat, s.heap.size ≤ q → AA q := fun q h => by rw [← hAe]; exact Or.inr h
  have hS : va_S AA s.heap s.heap [] := va_S.rf
  have hP : va_P D vwCl ([oM y b (((R : Nat) : Int)) (fm1) (kn) (pm0) (lm), aJ t (b 5) 16 (fd0), aZ t (b 9) 30 (Fo), aI t (b 10) 120 (Be)]) s.heap := hP
  have hl := lv_entry ([.ref y, .int (zI (n)), .int (zI (way)), .int (zI (what))]) (n := 4) (Nat.le_of_ble_eq_true rfl)
  rw [lg_entry_eq]
  generalize (lg_sl ([.ref y, .int (zI (n)), .int (zI (way)), .int (zI (what))]) ++ List.replicate (4 - (lg_sl ([.ref y, .int (zI (n)), .int (zI (way)), .int (zI (what))])).length) Slot.unset).toArray = ls at hl ⊢
  have hl : lv_has ls 4 [(0, .ref y), (1, .int (zI (n))), (2, .int (zI (way))), (3, .int (zI (what)))] := hl
  have iX7 : ∀ w ∈ u_ws RX7 TX7 16, w ∈ wsX7_best := by decide +kernel
  refine lv_iload_n hx hb dX7_best_0 rfl (lv_at hl 1 rfl) ?_
  refine z_i2l hx hb (by omega) dX7_best_1 ?_
  refine lv_lconst (v := lN 1) hx hb dX7_best_2 rfl ?_
  refine lv_ldc2 (v := lN 14) hx hb hown (hts (.constantLong RX7 157 (lN 14)) (by decide +kernel)) dX7_best_3 ?_
  refine vp_callSi (va_runS (As := [.long (zL (n)), .long (lN (1)), .long (lN (14))]) (rest := []) ⟨hx, hb, hml, hown, hts⟩ (c_X7_in l _ _ _) (va_cwS 3 hts gX7_best_X7_in rfl rfl rfl (by decide +kernel) ⟨Nat.le_of_ble_eq_true rfl, Nat.le_of_ble_eq_true rfl⟩) ⟨fun a U g mk q => q, fun U hU hW => ⟨rfl, trivial⟩⟩ rfl rfl hl.1 rfl (lv_room (Nat.le_of_ble_eq_true rfl)) dX7_best_6 ⟨Nat.le_of_ble_eq_true rfl, Nat.le_of_ble_eq_true rfl⟩).run (fun r hr6 => ?_)
  have hq6 : r = zI (bP (((1 : Nat) : Int) ≤ n ∧ n ≤ ((14 : Nat) : Int))) := by rw [hr6]; exact congrArg zI (bP_cg (by simp only [zL_toInt (e := n) (by omega), lN_toI (n := 1) (by omega), lN_toI (n := 14) (by omega)]))
  obtain rfl := hq6
  refine z_ifb_eq (P := ((1 : Nat) : Int) ≤ n ∧ n ≤ ((14 : Nat) : Int)) (tgt := 34) hx hb dX7_best_9 (by decide) (fun c9 => ?_) (fun c9 => ?_)
  · refine lv_iconst (v := zI (-1)) hx hb dX7_best_34 rfl ?_
    exact W.iret (v := (zI ((-1)))) hx hb hr (fun tq ht hW => ⟨⟨_, (fm1, fd0, Fo, Be), rfl, ⟨by rw [sp_best, if_neg (fun z => by omega)], gB⟩, by rw [ht]; exact hP, va_K.moved hW.alike hK, hD⟩, hS.F ht⟩) hS.2.2 dX7_best_35
  · refine lv_iload_n hx hb dX7_best_12 rfl (lv_at hl 2 rfl) ?_
    refine z_i2l hx hb (by omega) dX7_best_13 ?_
    refine lv_lconst (v := lN 0) hx hb dX7_best_14 rfl ?_
    refine lv_lconst (v := lN 1) hx hb dX7_best_15 rfl ?_
    refine vp_callSi (va_runS (As := [.long (zL (way)), .long (lN (0)), .long (lN (1))]) (rest := []) ⟨hx, hb, hml, hown, hts⟩ (c_X7_in l _ _ _) (va_cwS 3 hts gX7_best_X7_in rfl rfl rfl (by decide +kernel) ⟨Nat.le_of_ble_eq_true rfl, Nat.le_of_ble_eq_true rfl⟩) ⟨fun a U g mk q => q, fun U hU hW => ⟨rfl, trivial⟩⟩ rfl rfl hl.1 rfl (lv_room (Nat.le_of_ble_eq_true rfl)) dX7_best_16 ⟨Nat.le_of_ble_eq_true rfl, Nat.le_of_ble_eq_true rfl⟩).run (fun r hr16 => ?_)
    have hq16 : r = zI (bP (((0 : Nat) : Int) ≤ way ∧ way ≤ ((1 : Nat) : Int))) := by rw [hr16]; exact congrArg zI (bP_cg (by simp only [zL_toInt (e := way) (by omega), lN_toI (n := 0) (by omega), lN_toI (n := 1) (by omega)]))
    obtain rfl := hq16
    refine z_ifb_eq (P := ((0 : Nat) : Int) ≤ way ∧ way ≤ ((1 : Nat) : Int)) (tgt := 34) hx hb dX7_best_19 (by decide) (fun c19 => ?_) (fun c19 => ?_)
    · refine lv_iconst (v := zI (-1)) hx hb dX7_best_34 rfl ?_
      exact W.iret (v := (zI ((-1)))) hx hb hr (fun tq ht hW => ⟨⟨_, (fm1, fd0, Fo, Be), rfl, ⟨by rw [sp_best, if_neg (fun z => by omega)], gB⟩, by rw [ht]; exact hP, va_K.moved hW.alike hK, hD⟩, hS.F ht⟩) hS.2.2 dX7_best_35
    · refine lv_iload_n hx hb dX7_best_22 rfl (lv_at hl 3 rfl) ?_
      refine z_i2l hx hb (by omega) dX7_best_23 ?_
      refine lv_lconst (v := lN 0) hx hb dX7_best_24 rfl ?_
      refine lv_ldc2 (v := lN 3) hx hb hown (hts (.constantLong RX7 62 (lN 3)) (by decide +kernel)) dX7_best_25 ?_
      refine vp_callSi (va_runS (As := [.long (zL (what)), .long (lN (0)), .long (lN (3))]) (rest := []) ⟨hx, hb, hml, hown, hts⟩ (c_X7_in l _ _ _) (va_cwS 3 hts gX7_best_X7_in rfl rfl rfl (by decide +kernel) ⟨Nat.le_of_ble_eq_true rfl, Nat.le_of_ble_eq_true rfl⟩) ⟨fun a U g mk q => q, fun U hU hW => ⟨rfl, trivial⟩⟩ rfl rfl hl.1 rfl (lv_room (Nat.le_of_ble_eq_true rfl)) dX7_best_28 ⟨Nat.le_of_ble_eq_true rfl, Nat.le_of_ble_eq_true rfl⟩).run (fun r hr28 => ?_)
      have hq28 : r = zI (bP (((0 : Nat) : Int) ≤ what ∧ what ≤ ((3 : Nat) : Int))) := by rw [hr28]; exact congrArg zI (bP_cg (by simp only [zL_toInt (e := what) (by omega), lN_toI (n := 0) (by omega), lN_toI (n := 3) (by omega)]))
      obtain rfl := hq28
      refine z_ifb_ne (P := ((0 : Nat) : Int) ≤ what ∧ what ≤ ((3 : Nat) : Int)) (tgt := 36) hx hb dX7_best_31 (by decide) (fun c31 => ?_) (fun c31 => ?_)
      · rcases (show way = 0 ∨ way = 1 by omega) with rfl | rfl
        · have hbb := gB n.toNat 0 (by omega) (by omega) (by decide)
          refine lv_aload_n hx hb dX7_best_36 rfl (lv_at hl 0 rfl) ?_
          refine va_get (D := D) (ci := 6) (v := .ref (b 9)) (C := RX7) (T := TX7) (N := 16) hx hb hts iX7 hown hK hP 0 rfl rfl 14 (by decide) (hts (.fieldLink RX7 42 "CancelRowsModel" "isFound" "[Z") (by decide +kernel)) (fun _ h9 => h9) rfl dX7_best_37 ?_
          refine lv_iconst (v := zI 2) hx hb dX7_best_40 rfl ?_
          refine lv_iload_n hx hb dX7_best_41 rfl (lv_at hl 1 rfl) ?_
          refine z_imul hx hb dX7_best_42 ?_
          refine lv_iload_n hx hb dX7_best_43 rfl (lv_at hl 2 rfl) ?_
          refine z_iadd hx hb dX7_best_44 ?_
          refine z_re (e2 := ((2 * n.toNat + 0 : Nat) : Int)) (by omega) ?_
          refine z_zald hx hb hK hP 2 2 rfl rfl (2 * n.toNat + 0) (by omega) (by omega) (by omega) dX7_best_45 ?_
          refine z_if_ne (tgt := 55) hx hb dX7_best_46 (by decide) (by omega) (fun c46 => ?_) (fun c46 => ?_)
          · refine lv_aload_n hx hb dX7_best_55 rfl (lv_at hl 0 rfl) ?_
            refine va_get (D := D) (ci := 6) (v := .ref (b 10)) (C := RX7) (T := TX7) (N := 16) hx hb hts iX7 hown hK hP 0 rfl rfl 15 (by decide) (hts (.fieldLink RX7 46 "CancelRowsModel" "bestRow" "[I") (by decide +kernel)) (fun _ h9 => h9) rfl dX7_best_56 ?_
            refine lv_iconst (v := zI 4) hx hb dX7_best_59 rfl ?_
            refine lv_iconst (v := zI 2) hx hb dX7_best_60 rfl ?_
            refine lv_iload_n hx hb dX7_best_61 rfl (lv_at hl 1 rfl) ?_
            refine z_imul hx hb dX7_best_62 ?_
            refine lv_iload_n hx hb dX7_best_63 rfl (lv_at hl 2 rfl) ?_
            refine z_iadd hx hb dX7_best_64 ?_
            refine z_imul hx hb dX7_best_65 ?_
            refine lv_iload_n hx hb dX7_best_66 rfl (lv_at hl 3 rfl) ?_
            refine z_iadd hx hb dX7_best_67 ?_
            refine z_re (e2 := ((4 * (2 * n.toNat + 0) + what.toNat : Nat) : Int)) (by omega) ?_
            refine z_iald hx hb hK hP 3 0 rfl rfl (4 * (2 * n.toNat + 0) + what.toNat) (by omega) (by omega) (by omega) dX7_best_68 ?_
            refine z_re (e2 := bw (bv n.toNat 0) what) ((hbb.resolve_left (fun z => c46 z)).2 what (by omega) (by omega)) ?_
            exact W.iret (v := (zI (bw (bv n.toNat 0) what))) hx hb hr (fun tq ht hW => ⟨⟨_, (fm1, fd0, Fo, Be), rfl, ⟨by rw [sp_best, if_pos (by omega)], gB⟩, by rw [ht]; exact hP, va_K.moved hW.alike hK, hD⟩, hS.F ht⟩) hS.2.2 dX7_best_69
          · refine lv_aload_n hx hb dX7_best_49 rfl (lv_at hl 0 rfl) ?_
            refine lv_iload_n hx hb dX7_best_50 rfl (lv_at hl 1 rfl) ?_
            refine z_re (e2 := ((n.toNat : Nat) : Int)) (by omega) ?_
            refine lv_iload_n hx hb dX7_best_51 rfl (lv_at hl 2 rfl) ?_
            have hPc := hP.sub (ws' := [oM y b (((R : Nat) : Int)) (fm1) (kn) (pm0) (lm), aJ t (b 5) 16 (fd0), aZ t (b 9) 30 (Fo), aI t (b 10) 120 (Be)]) [0, 1, 2, 3] rfl
            have hDc := hD.sub (ws' := [oM y b (((R : Nat) : Int)) (fm1) (kn) (pm0) (lm), aJ t (b 5) 16 (fd0), aZ t (b 9) 30 (Fo), aI t (b 10) 120 (Be)]) [0, 1, 2, 3] (by decide) rfl
            have hFc := va_free (wc := [oM y b (((R : Nat) : Int)) (fm1) (kn) (pm0) (lm), aJ t (b 5) 16 (fd0), aZ t (b 9) 30 (Fo), aI t (b 10) 120 (Be)]) hD hS hA [0, 1, 2, 3] rfl
            refine va_callv (va_runV (As := [.int (zI (((n.toNat : Nat) : Int))), .int (zI (0))]) (rest := []) ⟨hx, hb, hml, hown, hts⟩ (c_X7_search_0 l D t s.heap.size y b R fm1 kn pm0 lm fd0 Fo Be n.toNat (by omega)) (cwV 2 hts gX7_best_X7_search rfl rfl rfl (by decide +kernel) ⟨Nat.le_of_ble_eq_true rfl, Nat.le_of_ble_eq_true rfl⟩) ⟨fun a U g mk q => by obtain ⟨q0, q1, qP, qK, qD⟩ := q; exact ⟨q0, q1, qP, va_K.moved (u := U) (U := U.calling g mk a) (Vm.Alike.refl U.vm) qK, qD⟩, va_recv hK hPc (ci := 6) (q0 := 0) rfl rfl, fun U hU hW => ⟨rfl, by rw [hU], by rw [hU]; exact hPc, va_K.moved hW.alike hK, hDc.weaken (fun _ _ _ _ => trivial)⟩⟩ rfl rfl hl.1 rfl (lv_room (Nat.le_of_ble_eq_true rfl)) dX7_best_52 ⟨Nat.le_of_ble_eq_true rfl, Nat.le_of_ble_eq_true rfl⟩) hS (fun q _ h => hFc q h) hFc (fun u tq H1 locs ht hvm hr52 hB hz1 hk1 hS => ?_)
            obtain ⟨fm2, fd2⟩ := u
            obtain ⟨hP1, hK1, hD1⟩ := hB
            rw [ht] at hP1
            obtain ⟨hP, hD⟩ := va_join (wr := []) (w1 := [oM y b (((R : Nat) : Int)) (fm2) (kn) (pm0) (lm), aJ t (b 5) 16 (fd2), aZ t (b 9) 30 (va_up Fo (2 * (n.toNat) + 0) 1), aI t (b 10) 120 (brw Be (4 * (2 * (n.toNat) + 0)) (bv (n.toNat) 0))]) hP hD [0, 1, 2, 3] [] rfl rfl (by decide) (by decide) hk1 hFc hP1 hD1
            generalize H1 = H at hP hS ⊢
            have hP : va_P D vwCl [oM y b (((R : Nat) : Int)) (fm2) (kn) (pm0) (lm), aJ t (b 5) 16 (fd2), aZ t (b 9) 30 (va_up Fo (2 * (n.toNat) + 0) 1), aI t (b 10) 120 (brw Be (4 * (2 * (n.toNat) + 0)) (bv (n.toNat) 0))] H := hP
            have hD : va_D AA [oM y b (((R : Nat) : Int)) (fm2) (kn) (pm0) (lm), aJ t (b 5) 16 (fd2), aZ t (b 9) 30 (va_up Fo (2 * (n.toNat) + 0) 1), aI t (b 10) 120 (brw Be (4 * (2 * (n.toNat) + 0)) (bv (n.toNat) 0))] := hD
            try dsimp only at hr52
            refine lv_aload_n hx hb dX7_best_55 rfl (lv_at hl 0 rfl) ?_
            refine va_get (D := D) (ci := 6) (v := .ref (b 10)) (C := RX7) (T := TX7) (N := 16) hx hb hts iX7 hown hK hP 0 rfl rfl 15 (by decide) (hts (.fieldLink RX7 46 "CancelRowsModel" "bestRow" "[I") (by decide +kernel)) (fun _ h9 => h9) rfl dX7_best_56 ?_
            refine lv_iconst (v := zI 4) hx hb dX7_best_59 rfl ?_
            refine lv_iconst (v := zI 2) hx hb dX7_best_60 rfl ?_
            refine lv_iload_n hx hb dX7_best_61 rfl (lv_at hl 1 rfl) ?_
            refine z_imul hx hb dX7_best_62 ?_
            refine lv_iload_n hx hb dX7_best_63 rfl (lv_at hl 2 rfl) ?_
            refine z_iadd hx hb dX7_best_64 ?_
            refine z_imul hx hb dX7_best_65 ?_
            refine lv_iload_n hx hb dX7_best_66 rfl (lv_at hl 3 rfl) ?_
            refine z_iadd hx hb dX7_best_67 ?_
            refine z_re (e2 := ((4 * (2 * n.toNat + 0) + what.toNat : Nat) : Int)) (by omega) ?_
            refine z_iald hx hb hK hP 3 0 rfl rfl (4 * (2 * n.toNat + 0) + what.toNat) (by omega) (by omega) (by omega) dX7_best_68 ?_
            refine z_re (e2 := bw (bv n.toNat 0) what) (brw_bw _ _ _ what (by omega) (by omega)) ?_
            have hP := hP.sub (ws' := [oM y b (((R : Nat) : Int)) (fm2) (kn) (pm0) (lm), aJ t (b 5) 16 (fd2), aZ t (b 9) 30 (va_up Fo (2 * n.toNat + 0) 1), aI t (b 10) 120 (brw Be (4 * (2 * n.toNat + 0)) (bv n.toNat 0))]) [0, 1, 2, 3] rfl
            have hD := hD.sub (ws' := [oM y b (((R : Nat) : Int)) (fm2) (kn) (pm0) (lm), aJ t (b 5) 16 (fd2), aZ t (b 9) 30 (va_up Fo (2 * n.toNat + 0) 1), aI t (b 10) 120 (brw Be (4 * (2 * n.toNat + 0)) (bv n.toNat 0))]) [0, 1, 2, 3] (by decide) rfl
            exact W.iret (v := (zI (bw (bv n.toNat 0) what))) hx hb hr (fun tq ht hW => ⟨⟨_, (fm2, fd2, va_up Fo (2 * n.toNat + 0) 1, brw Be (4 * (2 * n.toNat + 0)) (bv n.toNat 0)), rfl, ⟨by rw [sp_best, if_pos (by omega)], bOK_up gB n.toNat 0 (by decide)⟩, by rw [ht]; exact hP, va_K.moved hW.alike hK, hD⟩, hS.F ht⟩) hS.2.2 dX7_best_69
        · have hbb := gB n.toNat 1 (by omega) (by omega) (by decide)
          refine lv_aload_n hx hb dX7_best_36 rfl (lv_at hl 0 rfl) ?_
          refine va_get (D := D) (ci := 6) (v := .ref (b 9)) (C := RX7) (T := TX7) (N := 16) hx hb hts iX7 hown hK hP 0 rfl rfl 14 (by decide) (hts (.fieldLink RX7 42 "CancelRowsModel" "isFound" "[Z") (by decide +kernel)) (fun _ h9 => h9) rfl dX7_best_37 ?_
          refine lv_iconst (v := zI 2) hx hb dX7_best_40 rfl ?_
          refine lv_iload_n hx hb dX7_best_41 rfl (lv_at hl 1 rfl) ?_
          refine z_imul hx hb dX7_best_42 ?_
          refine lv_iload_n hx hb dX7_best_43 rfl (lv_at hl 2 rfl) ?_
          refine z_iadd hx hb dX7_best_44 ?_
          refine z_re (e2 := ((2 * n.toNat + 1 : Nat) : Int)) (by omega) ?_
          refine z_zald hx hb hK hP 2 2 rfl rfl (2 * n.toNat + 1) (by omega) (by omega) (by omega) dX7_best_45 ?_
          refine z_if_ne (tgt := 55) hx hb dX7_best_46 (by decide) (by omega) (fun c46 => ?_) (fun c46 => ?_)
          · refine lv_aload_n hx hb dX7_best_55 rfl (lv_at hl 0 rfl) ?_
            refine va_get (D := D) (ci := 6) (v := .ref (b 10)) (C := RX7) (T := TX7) (N := 16) hx hb hts iX7 hown hK hP 0 rfl rfl 15 (by decide) (hts (.fieldLink RX7 46 "CancelRowsModel" "bestRow" "[I") (by decide +kernel)) (fun _ h9 => h9) rfl dX7_best_56 ?_
            refine lv_iconst (v := zI 4) hx hb dX7_best_59 rfl ?_
            refine lv_iconst (v := zI 2) hx hb dX7_best_60 rfl ?_
            refine lv_iload_n hx hb dX7_best_61 rfl (lv_at hl 1 rfl) ?_
            refine z_imul hx hb dX7_best_62 ?_
            refine lv_iload_n hx hb dX7_best_63 rfl (lv_at hl 2 rfl) ?_
            refine z_iadd hx hb dX7_best_64 ?_
            refine z_imul hx hb dX7_best_65 ?_
            refine lv_iload_n hx hb dX7_best_66 rfl (lv_at hl 3 rfl) ?_
            refine z_iadd hx hb dX7_best_67 ?_
            refine z_re (e2 := ((4 * (2 * n.toNat + 1) + what.toNat : Nat) : Int)) (by omega) ?_
            refine z_iald hx hb hK hP 3 0 rfl rfl (4 * (2 * n.toNat + 1) + what.toNat) (by omega) (by omega) (by omega) dX7_best_68 ?_
            refine z_re (e2 := bw (bv n.toNat 1) what) ((hbb.resolve_left (fun z => c46 z)).2 what (by omega) (by omega)) ?_
            exact W.iret (v := (zI (bw (bv n.toNat 1) what))) hx hb hr (fun tq ht hW => ⟨⟨_, (fm1, fd0, Fo, Be), rfl, ⟨by rw [sp_best, if_pos (by omega)], gB⟩, by rw [ht]; exact hP, va_K.moved hW.alike hK, hD⟩, hS.F ht⟩) hS.2.2 dX7_best_69
          · refine lv_aload_n hx hb dX7_best_49 rfl (lv_at hl 0 rfl) ?_
            refine lv_iload_n hx hb dX7_best_50 rfl (lv_at hl 1 rfl) ?_
            refine z_re (e2 := ((n.toNat : Nat) : Int)) (by omega) ?_
            refine lv_iload_n hx hb dX7_best_51 rfl (lv_at hl 2 rfl) ?_
            have hPc := hP.sub (ws' := [oM y b (((R : Nat) : Int)) (fm1) (kn) (pm0) (lm), aJ t (b 5) 16 (fd0), aZ t (b 9) 30 (Fo), aI t (b 10) 120 (Be)]) [0, 1, 2, 3] rfl
            have hDc := hD.sub (ws' := [oM y b (((R : Nat) : Int)) (fm1) (kn) (pm0) (lm), aJ t (b 5) 16 (fd0), aZ t (b 9) 30 (Fo), aI t (b 10) 120 (Be)]) [0, 1, 2, 3] (by decide) rfl
            have hFc := va_free (wc := [oM y b (((R : Nat) : Int)) (fm1) (kn) (pm0) (lm), aJ t (b 5) 16 (fd0), aZ t (b 9) 30 (Fo), aI t (b 10) 120 (Be)]) hD hS hA [0, 1, 2, 3] rfl
            refine va_callv (va_runV (As := [.int (zI (((n.toNat : Nat) : Int))), .int (zI (1))]) (rest := []) ⟨hx, hb, hml, hown, hts⟩ (c_X7_search_1 l D t s.heap.size y b R fm1 kn pm0 lm fd0 Fo Be n.toNat (by omega)) (cwV 2 hts gX7_best_X7_search rfl rfl rfl (by decide +kernel) ⟨Nat.le_of_ble_eq_true rfl, Nat.le_of_ble_eq_true rfl⟩) ⟨fun a U g mk q => by obtain ⟨q0, q1, qP, qK, qD⟩ := q; exact ⟨q0, q1, qP, va_K.moved (u := U) (U := U.calling g mk a) (Vm.Alike.refl U.vm) qK, qD⟩, va_recv hK hPc (ci := 6) (q0 := 0) rfl rfl, fun U hU hW => ⟨rfl, by rw [hU], by rw [hU]; exact hPc, va_K.moved hW.alike hK, hDc.weaken (fun _ _ _ _ => trivial)⟩⟩ rfl rfl hl.1 rfl (lv_room (Nat.le_of_ble_eq_true rfl)) dX7_best_52 ⟨Nat.le_of_ble_eq_true rfl, Nat.le_of_ble_eq_true rfl⟩) hS (fun q _ h => hFc q h) hFc (fun u tq H1 locs ht hvm hr52 hB hz1 hk1 hS => ?_)
            obtain ⟨fm2, fd2⟩ := u
            obtain ⟨hP1, hK1, hD1⟩ := hB
            rw [ht] at hP1
            obtain ⟨hP, hD⟩ := va_join (wr := []) (w1 := [oM y b (((R : Nat) : Int)) (fm2) (kn) (pm0) (lm), aJ t (b 5) 16 (fd2), aZ t (b 9) 30 (va_up Fo (2 * (n.toNat) + 1) 1), aI t (b 10) 120 (brw Be (4 * (2 * (n.toNat) + 1)) (bv (n.toNat) 1))]) hP hD [0, 1, 2, 3] [] rfl rfl (by decide) (by decide) hk1 hFc hP1 hD1
            generalize H1 = H at hP hS ⊢
            have hP : va_P D vwCl [oM y b (((R : Nat) : Int)) (fm2) (kn) (pm0) (lm), aJ t (b 5) 16 (fd2), aZ t (b 9) 30 (va_up Fo (2 * (n.toNat) + 1) 1), aI t (b 10) 120 (brw Be (4 * (2 * (n.toNat) + 1)) (bv (n.toNat) 1))] H := hP
            have hD : va_D AA [oM y b (((R : Nat) : Int)) (fm2) (kn) (pm0) (lm), aJ t (b 5) 16 (fd2), aZ t (b 9) 30 (va_up Fo (2 * (n.toNat) + 1) 1), aI t (b 10) 120 (brw Be (4 * (2 * (n.toNat) + 1)) (bv (n.toNat) 1))] := hD
            try dsimp only at hr52
            refine lv_aload_n hx hb dX7_best_55 rfl (lv_at hl 0 rfl) ?_
            refine va_get (D := D) (ci := 6) (v := .ref (b 10)) (C := RX7) (T := TX7) (N := 16) hx hb hts iX7 hown hK hP 0 rfl rfl 15 (by decide) (hts (.fieldLink RX7 46 "CancelRowsModel" "bestRow" "[I") (by decide +kernel)) (fun _ h9 => h9) rfl dX7_best_56 ?_
            refine lv_iconst (v := zI 4) hx hb dX7_best_59 rfl ?_
            refine lv_iconst (v := zI 2) hx hb dX7_best_60 rfl ?_
            refine lv_iload_n hx hb dX7_best_61 rfl (lv_at hl 1 rfl) ?_
            refine z_imul hx hb dX7_best_62 ?_
            refine lv_iload_n hx hb dX7_best_63 rfl (lv_at hl 2 rfl) ?_
            refine z_iadd hx hb dX7_best_64 ?_
            refine z_imul hx hb dX7_best_65 ?_
            refine lv_iload_n hx hb dX7_best_66 rfl (lv_at hl 3 rfl) ?_
            refine z_iadd hx hb dX7_best_67 ?_
            refine z_re (e2 := ((4 * (2 * n.toNat + 1) + what.toNat : Nat) : Int)) (by omega) ?_
            refine z_iald hx hb hK hP 3 0 rfl rfl (4 * (2 * n.toNat + 1) + what.toNat) (by omega) (by omega) (by omega) dX7_best_68 ?_
            refine z_re (e2 := bw (bv n.toNat 1) what) (brw_bw _ _ _ what (by omega) (by omega)) ?_
            have hP := hP.sub (ws' := [oM y b (((R : Nat) : Int)) (fm2) (kn) (pm0) (lm), aJ t (b 5) 16 (fd2), aZ t (b 9) 30 (va_up Fo (2 * n.toNat + 1) 1), aI t (b 10) 120 (brw Be (4 * (2 * n.toNat + 1)) (bv n.toNat 1))]) [0, 1, 2, 3] rfl
            have hD := hD.sub (ws' := [oM y b (((R : Nat) : Int)) (fm2) (kn) (pm0) (lm), aJ t (b 5) 16 (fd2), aZ t (b 9) 30 (va_up Fo (2 * n.toNat + 1) 1), aI t (b 10) 120 (brw Be (4 * (2 * n.toNat + 1)) (bv n.toNat 1))]) [0, 1, 2, 3] (by decide) rfl
            exact W.iret (v := (zI (bw (bv n.toNat 1) what))) hx hb hr (fun tq ht hW => ⟨⟨_, (fm2, fd2, va_up Fo (2 * n.toNat + 1) 1, brw Be (4 * (2 * n.toNat + 1)) (bv n.toNat 1)), rfl, ⟨by rw [sp_best, if_pos (by omega)], bOK_up gB n.toNat 1 (by decide)⟩, by rw [ht]; exact hP, va_K.moved hW.alike hK, hD⟩, hS.F ht⟩) hS.2.2 dX7_best_69
      · refine lv_iconst (v := zI (-1)) hx hb dX7_best_34 rfl ?_
        exact W.iret (v := (zI ((-1)))) hx hb hr (fun tq ht hW => ⟨⟨_, (fm1, fd0, Fo, Be), rfl, ⟨by rw [sp_best, if_neg (fun z => by omega)], gB⟩, by rw [ht]; exact hP, va_K.moved hW.alike hK, hD⟩, hS.F ht⟩) hS.2.2 dX7_best_35
