/-! CancelRows: rows -/
def RV (R : Nat) (F G : Nat → Nat) : Prop := R ≤ 24 ∧ ∀ i, i < R → 1 ≤ F i ∧ F i ≤ 32 ∧ G i < 2 ^ F i
abbrev inR (R : Nat) (i : Int) : Prop := 0 ≤ i ∧ i < (R : Int)
theorem RV_at {R : Nat} {F G : Nat → Nat} (h : RV R F G) {i : Int} (hi : inR R i) : 1 ≤ F i.toNat ∧ F i.toNat ≤ 32 ∧ G i.toNat < 2 ^ F i.toNat := h.2 i.toNat (by omega)
abbrev RT : Type := Nat × (Nat → Nat) × (Nat → Nat)
def sp_add (R : Nat) (F G : Nat → Nat) (n v : Nat) : Int × RT := if n ≤ 32 ∧ R < 24 then ((R : Int), R + 1, va_up F R n, va_up G R v) else (-3, R, F, G)
theorem sp_add_y {R : Nat} {F G : Nat → Nat} {n v : Nat} (h : n ≤ 32 ∧ R < 24) : sp_add R F G n v = ((R : Int), R + 1, va_up F R n, va_up G R v) := if_pos h
theorem sp_add_n {R : Nat} {F G : Nat → Nat} {n v : Nat} (h : ¬ (n ≤ 32 ∧ R < 24)) : sp_add R F G n v = (-3, R, F, G) := if_neg h
theorem RV_add {R : Nat} {F G : Nat → Nat} {n v : Nat} (h : RV R F G) (hn : 1 ≤ n) (hv : v < 2 ^ n) : RV (sp_add R F G n v).2.1 (sp_add R F G n v).2.2.1 (sp_add R F G n v).2.2.2 := by
  by_cases q : n ≤ 32 ∧ R < 24
  · rw [sp_add_y q]
    refine ⟨by show R + 1 ≤ 24; omega, fun i hi => ?_⟩
    have hi : i < R + 1 := hi
    show 1 ≤ va_up F R n i ∧ va_up F R n i ≤ 32 ∧ va_up G R v i < 2 ^ va_up F R n i
    simp only [va_up]
    by_cases e : i = R
    · rw [if_pos e, if_pos e]; exact ⟨hn, q.1, hv⟩
    · rw [if_neg e, if_neg e]; exact h.2 i (by omega)
  · rw [sp_add_n q]; exact h
-- isRow
set_option maxHeartbeats 4000000 in
set_option maxRecDepth 100000 in
theorem c_X6_isRow (l : Launch) (D : va_G) (t : Nat → ClassId) (x : Nat) (a : Nat → Nat) (R : Nat) (gR : R ≤ 24) (i : Int) (gi : -2147483648 ≤ i ∧ i < 2147483648) : Met l yX6_isRow wsX6_isRow ({ frames := 1, cells := 0, slots := 0, locals := 22 }) (va_Pc [.ref x, .int (zI (i))] (fun U => va_P D vwCl ([oX x a (((R : Nat) : Int))]) U.heap ∧ va_K D vwCl (TY t) U)) (vp_Si (fun r => r = zI (bP (inR R i)))) 0 0 (fun _ => False) := by
  refine Met.ofW (cc := cX6_isRow) (maxL := 2) (ret := (some .boolean)) (by decide) rfl ?_
  intro p e s m args below meth c s₁ B hml hv
  obtain ⟨rfl, hP, hK⟩ := hv
  have hx := B.exec
  have hb := B.bytes
  have hr := B.returns
  have hts := atoms_spec (ws := wsX6_isRow) B.pre
  have hown : s.vm.findClass RX6 = some m.cls := findClass_of_methodNamed B.named
  have hlocks := B.notSynchronized
  have hl := lv_entry ([.ref x, .int (zI (i))]) (n := 2) (Nat.le_of_ble_eq_true rfl)
  rw [lg_entry_eq]
  generalize (lg_sl ([.ref x, .int (zI (i))]) ++ List.replicate (2 - (lg_sl ([.ref x, .int (zI (i))])).length) Slot.unset).toArray = ls at hl ⊢
  have hl : lv_has ls 2 [(0, .ref x), (1, .int (zI (i)))] := hl
  have iX6 : ∀ w ∈ u_ws RX6 TX6 7, w ∈ wsX6_isRow := by decide +kernel
  refine lv_iload_n hx hb dX6_isRow_0 rfl (lv_at hl 1 rfl) ?_
  refine lv_iconst (v := zI 0) hx hb dX6_isRow_1 rfl ?_
  refine lv_aload_n hx hb dX6_isRow_2 rfl (lv_at hl 0 rfl) ?_
  refine va_get (D := D) (ci := 5) (v := .int (zI (((R : Nat) : Int)))) (C := RX6) (T := TX6) (N := 7) hx hb hts iX6 hown hK hP 0 rfl rfl 6 (by decide) (hts (.fieldLink RX6 38 "CancelRows" "rows" "I") (by decide +kernel)) (fun _ h9 => h9) rfl dX6_isRow_3 ?_
  refine lv_iconst (v := zI 1) hx hb dX6_isRow_6 rfl ?_
  refine z_isub hx hb dX6_isRow_7 ?_
  refine vp_callSi (va_runS (As := [.int (zI (i)), .int (zI (0)), .int (zI ((((R : Nat) : Int)) - (1)))]) (rest := []) ⟨hx, hb, hml, hown, hts⟩ (c_X6_within l i 0 ((R : Int) - 1) gi (by omega) (by omega)) (va_cwS 3 hts gX6_isRow_X6_within rfl rfl rfl (by decide +kernel) ⟨Nat.le_of_ble_eq_true rfl, Nat.le_of_ble_eq_true rfl⟩) ⟨fun a U g mk q => q, fun U hU hW => ⟨rfl, trivial⟩⟩ rfl rfl hl.1 rfl (lv_room (Nat.le_of_ble_eq_true rfl)) dX6_isRow_8 ⟨Nat.le_of_ble_eq_true rfl, Nat.le_of_ble_eq_true rfl⟩).run (fun r hr8 => ?_)
  obtain rfl := hr8
  exact W.zret (v := (zI (bP ((0) ≤ (i) ∧ (i) ≤ ((((R : Nat) : Int)) - (1)))))) hx hb hr (nar_b _ (by first | exact Or.inl rfl | exact Or.inr rfl | exact bP_or _)) (fun tq ht hW => ⟨_, rfl, congrArg zI (bP_cg (by constructor <;> (intro z; obtain ⟨z1, z2⟩ := z; constructor <;> omega))), ht⟩) (fun q h => by cases h) dX6_isRow_11

-- areAlikeLong
set_option maxHeartbeats 4000000 in
set_option maxRecDepth 100000 in
theorem c_X6_areAlikeLong (l : Launch) (D : va_G) (t : Nat → ClassId) (x : Nat) (a : Nat → Nat) (R : Nat) (F G : Nat → Nat) (gV : RV R F G) (i j : Int) (gi : -2147483648 ≤ i ∧ i < 2147483648) (gj : -2147483648 ≤ j ∧ j < 2147483648) : Met l yX6_areAlikeLong wsX6_areAlikeLong ({ frames := 2, cells := 0, slots := 0, locals := 43 }) (va_Pc [.ref x, .int (zI (i)), .int (zI (j))] (fun U => va_P D vwCl ([oX x a (((R : Nat) : Int)), aI t (a 0) 24 (cN F)]) U.heap ∧ va_K D vwCl (TY t) U)) (vp_Si (fun r => r = zI (bP (inR R i ∧ inR R j ∧ F i.toNat = F j.toNat)))) 0 0 (fun _ => False) := by
  refine Met.ofW (cc := cX6_areAlikeLong) (maxL := 3) (ret := (some .boolean)) (by decide) rfl ?_
  intro p e s m args below meth c s₁ B hml hv
  obtain ⟨rfl, hP, hK⟩ := hv
  have hx := B.exec
  have hb := B.bytes
  have hr := B.returns
  have hts := atoms_spec (ws := wsX6_areAlikeLong) B.pre
  have hown : s.vm.findClass RX6 = some m.cls := findClass_of_methodNamed B.named
  have hlocks := B.notSynchronized
  have hl := lv_entry ([.ref x, .int (zI (i)), .int (zI (j))]) (n := 3) (Nat.le_of_ble_eq_true rfl)
  rw [lg_entry_eq]
  generalize (lg_sl ([.ref x, .int (zI (i)), .int (zI (j))]) ++ List.replicate (3 - (lg_sl ([.ref x, .int (zI (i)), .int (zI (j))])).length) Slot.unset).toArray = ls at hl ⊢
  have hl : lv_has ls 3 [(0, .ref x), (1, .int (zI (i))), (2, .int (zI (j)))] := hl
  have iX6 : ∀ w ∈ u_ws RX6 TX6 7, w ∈ wsX6_areAlikeLong := by decide +kernel
  have gR := gV.1
  refine lv_aload_n hx hb dX6_areAlikeLong_0 rfl (lv_at hl 0 rfl) ?_
  refine lv_iload_n hx hb dX6_areAlikeLong_1 rfl (lv_at hl 1 rfl) ?_
  have hPc := hP.sub (ws' := [oX x a (((R : Nat) : Int))]) [0] rfl
  refine vp_callSi (va_runV (As := [.int (zI (i))]) (rest := []) ⟨hx, hb, hml, hown, hts⟩ (c_X6_isRow l D t x a R gV.1 i gi) (cwV 1 hts gX6_areAlikeLong_X6_isRow rfl rfl rfl (by decide +kernel) ⟨Nat.le_of_ble_eq_true rfl, Nat.le_of_ble_eq_true rfl⟩) ⟨fun a U g mk q => ⟨q.1, q.2.1, va_K.moved (u := U) (U := U.calling g mk a) (Vm.Alike.refl U.vm) q.2.2⟩, va_recv hK hPc (ci := 5) (q0 := 0) rfl rfl, fun U hU hW => ⟨rfl, by rw [hU]; exact hPc, va_K.moved hW.alike hK⟩⟩ rfl rfl hl.1 rfl (lv_room (Nat.le_of_ble_eq_true rfl)) dX6_areAlikeLong_2 ⟨Nat.le_of_ble_eq_true rfl, Nat.le_of_ble_eq_true rfl⟩).run (fun r hr2 => ?_)
  obtain rfl := hr2
  refine z_ifb_eq (P := inR R (i)) (tgt := 35) hx hb dX6_areAlikeLong_5 (by decide) (fun c5 => ?_) (fun c5 => ?_)
  · refine lv_iconst (v := zI 0) hx hb dX6_areAlikeLong_35 rfl ?_
    exact W.zret (v := (zI (0))) hx hb hr (nar_b _ (by first | exact Or.inl rfl | exact Or.inr rfl | exact bP_or _)) (fun tq ht hW => ⟨_, rfl, by rw [bP_0 (fun z => c5 z.1)], ht⟩) (fun q h => by cases h) dX6_areAlikeLong_36
  · refine lv_aload_n hx hb dX6_areAlikeLong_8 rfl (lv_at hl 0 rfl) ?_
    refine lv_iload_n hx hb dX6_areAlikeLong_9 rfl (lv_at hl 2 rfl) ?_
    have hPc := hP.sub (ws' := [oX x a (((R : Nat) : Int))]) [0] rfl
    refine vp_callSi (va_runV (As := [.int (zI (j))]) (rest := []) ⟨hx, hb, hml, hown, hts⟩ (c_X6_isRow l D t x a R gV.1 j gj) (cwV 1 hts gX6_areAlikeLong_X6_isRow rfl rfl rfl (by decide +kernel) ⟨Nat.le_of_ble_eq_true rfl, Nat.le_of_ble_eq_true rfl⟩) ⟨fun a U g mk q => ⟨q.1, q.2.1, va_K.moved (u := U) (U := U.calling g mk a) (Vm.Alike.refl U.vm) q.2.2⟩, va_recv hK hPc (ci := 5) (q0 := 0) rfl rfl, fun U hU hW => ⟨rfl, by rw [hU]; exact hPc, va_K.moved hW.alike hK⟩⟩ rfl rfl hl.1 rfl (lv_room (Nat.le_of_ble_eq_true rfl)) dX6_areAlikeLong_10 ⟨Nat.le_of_ble_eq_true rfl, Nat.le_of_ble_eq_true rfl⟩).run (fun r hr10 => ?_)
    obtain rfl := hr10
    refine z_ifb_eq (P := inR R (j)) (tgt := 35) hx hb dX6_areAlikeLong_13 (by decide) (fun c13 => ?_) (fun c13 => ?_)
    · refine lv_iconst (v := zI 0) hx hb dX6_areAlikeLong_35 rfl ?_
      exact W.zret (v := (zI (0))) hx hb hr (nar_b _ (by first | exact Or.inl rfl | exact Or.inr rfl | exact bP_or _)) (fun tq ht hW => ⟨_, rfl, by rw [bP_0 (fun z => c13 z.2.1)], ht⟩) (fun q h => by cases h) dX6_areAlikeLong_36
    · have h1 := RV_at gV c5
      have h2 := RV_at gV c13
      refine lv_aload_n hx hb dX6_areAlikeLong_16 rfl (lv_at hl 0 rfl) ?_
      refine va_get (D := D) (ci := 5) (v := .ref (a 0)) (C := RX6) (T := TX6) (N := 7) hx hb hts iX6 hown hK hP 0 rfl rfl 0 (by decide) (hts (.fieldLink RX6 9 "CancelRows" "lengths" "[I") (by decide +kernel)) (fun _ h9 => h9) rfl dX6_areAlikeLong_17 ?_
      refine lv_iload_n hx hb dX6_areAlikeLong_20 rfl (lv_at hl 1 rfl) ?_
      refine z_iald hx hb hK hP 1 0 rfl rfl (i.toNat) (by omega) (by omega) (by omega) dX6_areAlikeLong_21 ?_
      refine z_re (e2 := ((F (i.toNat) : Nat) : Int)) (rfl) ?_
      refine lv_aload_n hx hb dX6_areAlikeLong_22 rfl (lv_at hl 0 rfl) ?_
      refine va_get (D := D) (ci := 5) (v := .ref (a 0)) (C := RX6) (T := TX6) (N := 7) hx hb hts iX6 hown hK hP 0 rfl rfl 0 (by decide) (hts (.fieldLink RX6 9 "CancelRows" "lengths" "[I") (by decide +kernel)) (fun _ h9 => h9) rfl dX6_areAlikeLong_23 ?_
      refine lv_iload_n hx hb dX6_areAlikeLong_26 rfl (lv_at hl 2 rfl) ?_
      refine z_iald hx hb hK hP 1 0 rfl rfl (j.toNat) (by omega) (by omega) (by omega) dX6_areAlikeLong_27 ?_
      refine z_re (e2 := ((F (j.toNat) : Nat) : Int)) (rfl) ?_
      refine z_icmp_ne (tgt := 35) hx hb dX6_areAlikeLong_28 (by decide) (by omega) (by omega) (fun c28 => ?_) (fun c28 => ?_)
      · refine lv_iconst (v := zI 0) hx hb dX6_areAlikeLong_35 rfl ?_
        exact W.zret (v := (zI (0))) hx hb hr (nar_b _ (by first | exact Or.inl rfl | exact Or.inr rfl | exact bP_or _)) (fun tq ht hW => ⟨_, rfl, by rw [bP_0 (fun z => c28 (by rw [z.2.2]))], ht⟩) (fun q h => by cases h) dX6_areAlikeLong_36
      · refine lv_iconst (v := zI 1) hx hb dX6_areAlikeLong_31 rfl ?_
        refine lv_goto (tgt := 36) hx hb dX6_areAlikeLong_32 (by decide) ?_
        exact W.zret (v := (zI (1))) hx hb hr (nar_b _ (by first | exact Or.inl rfl | exact Or.inr rfl | exact bP_or _)) (fun tq ht hW => ⟨_, rfl, by rw [bP_1 ⟨c5, c13, Int.ofNat.inj c28⟩], ht⟩) (fun q h => by cases h) dX6_areAlikeLong_36

-- fits
set_option maxHeartbeats 4000000 in
set_option maxRecDepth 100000 in
theorem c_X6_fits (l : Launch) (D : va_G) (t : Nat → ClassId) (x : Nat) (a : Nat → Nat) (R : Nat) (gR : R ≤ 24) (n k : Int) (gn : -2147483648 ≤ n ∧ n < 2147483648) (gk : 0 ≤ k ∧ k ≤ 2) : Met l yX6_fits wsX6_fits ({ frames := 0, cells := 0, slots := 0, locals := 0 }) (va_Pc [.ref x, .int (zI (n)), .int (zI (k))] (fun U => va_P D vwCl ([oX x a (((R : Nat) : Int))]) U.heap ∧ va_K D vwCl (TY t) U)) (vp_Si (fun r => r = zI (bP (n ≤ 32 ∧ (R : Int) + k ≤ 24)))) 0 0 (fun _ => False) := by
  refine Met.ofW (cc := cX6_fits) (maxL := 3) (ret := (some .boolean)) (by decide) rfl ?_
  intro p e s m args below meth c s₁ B hml hv
  obtain ⟨rfl, hP, hK⟩ := hv
  have hx := B.exec
  have hb := B.bytes
  have hr := B.returns
  have hts := atoms_spec (ws := wsX6_fits) B.pre
  have hown : s.vm.findClass RX6 = some m.cls := findClass_of_methodNamed B.named
  have hlocks := B.notSynchronized
  have hl := lv_entry ([.ref x, .int (zI (n)), .int (zI (k))]) (n := 3) (Nat.le_of_ble_eq_true rfl)
  rw [lg_entry_eq]
  generalize (lg_sl ([.ref x, .int (zI (n)), .int (zI (k))]) ++ List.replicate (3 - (lg_sl ([.ref x, .int (zI (n)), .int (zI (k))])).length) Slot.unset).toArray = ls at hl ⊢
  have hl : lv_has ls 3 [(0, .ref x), (1, .int (zI (n))), (2, .int (zI (k)))] := hl
  have iX6 : ∀ w ∈ u_ws RX6 TX6 7, w ∈ wsX6_fits := by decide +kernel
  refine lv_iload_n hx hb dX6_fits_0 rfl (lv_at hl 1 rfl) ?_
  refine lv_bipush (v := zI 32) hx hb dX6_fits_1 (by decide +kernel) ?_
  refine z_icmp_gt (tgt := 21) hx hb dX6_fits_3 (by decide) (by omega) (by omega) (fun c3 => ?_) (fun c3 => ?_)
  · refine lv_iconst (v := zI 0) hx hb dX6_fits_21 rfl ?_
    exact W.zret (v := (zI (0))) hx hb hr (nar_b _ (by first | exact Or.inl rfl | exact Or.inr rfl | exact bP_or _)) (fun tq ht hW => ⟨_, rfl, by rw [bP_0 (fun z => by obtain ⟨z1, z2⟩ := z; omega)], ht⟩) (fun q h => by cases h) dX6_fits_22
  · refine lv_aload_n hx hb dX6_fits_6 rfl (lv_at hl 0 rfl) ?_
    refine va_get (D := D) (ci := 5) (v := .int (zI (((R : Nat) : Int)))) (C := RX6) (T := TX6) (N := 7) hx hb hts iX6 hown hK hP 0 rfl rfl 6 (by decide) (hts (.fieldLink RX6 38 "CancelRows" "rows" "I") (by decide +kernel)) (fun _ h9 => h9) rfl dX6_fits_7 ?_
    refine lv_iload_n hx hb dX6_fits_10 rfl (lv_at hl 2 rfl) ?_
    refine z_iadd hx hb dX6_fits_11 ?_
    refine lv_bipush (v := zI 24) hx hb dX6_fits_12 (by decide +kernel) ?_
    refine z_icmp_gt (tgt := 21) hx hb dX6_fits_14 (by decide) (by omega) (by omega) (fun c14 => ?_) (fun c14 => ?_)
    · refine lv_iconst (v := zI 0) hx hb dX6_fits_21 rfl ?_
      exact W.zret (v := (zI (0))) hx hb hr (nar_b _ (by first | exact Or.inl rfl | exact Or.inr rfl | exact bP_or _)) (fun tq ht hW => ⟨_, rfl, by rw [bP_0 (fun z => by obtain ⟨z1, z2⟩ := z; omega)], ht⟩) (fun q h => by cases h) dX6_fits_22
    · refine lv_iconst (v := zI 1) hx hb dX6_fits_17 rfl ?_
      refine lv_goto (tgt := 22) hx hb dX6_fits_18 (by decide) ?_
      exact W.zret (v := (zI (1))) hx hb hr (nar_b _ (by first | exact Or.inl rfl | exact Or.inr rfl | exact bP_or _)) (fun tq ht hW => ⟨_, rfl, by rw [bP_1 ⟨by omega, by omega⟩], ht⟩) (fun q h => by cases h) dX6_fits_22

-- added
set_option maxHeartbeats 4000000 in
set_option maxRecDepth 100000 in
theorem c_X6_added (l : Launch) (D : va_G) (t : Nat → ClassId) (sz : Nat) (x : Nat) (a : Nat → Nat) (R : Nat) (F G : Nat → Nat) (gR : R < 24) (n v : Nat) (gn : n ≤ 32) : Met l yX6_added wsX6_added ({ frames := 0, cells := 0, slots := 0, locals := 0 }) (va_Pc [.ref x, .int (zI (n)), .long (lN (v))] (fun U => U.heap.size = sz ∧ va_P D vwCl ([oX x a (((R : Nat) : Int)), aI t (a 0) 24 (cN F), aJ t (a 1) 24 (G)]) U.heap ∧ va_K D vwCl (TY t) U ∧ va_D (fun _ => True) ([oX x a (((R : Nat) : Int)), aI t (a 0) 24 (cN F), aJ t (a 1) 24 (G)]))) (va_Qi (fun r (u : RT) => r = zI (R : Int) ∧ u = (R + 1, va_up F R n, va_up G R v)) (fun (u : RT) t1 => va_P D vwCl ([oX x a (((u.1 : Nat) : Int)), aI t (a 0) 24 (cN (u.2.1)), aJ t (a 1) 24 (u.2.2)]) t1.heap ∧ va_K D vwCl (TY t) t1 ∧ va_D (va_A ([oX x a (((R : Nat) : Int)), aI t (a 0) 24 (cN F), aJ t (a 1) 24 (G)]) sz) ([oX x a (((u.1 : Nat) : Int)), aI t (a 0) 24 (cN (u.2.1)), aJ t (a 1) 24 (u.2.2)])) (va_A ([oX x a (((R : Nat) : Int)), aI t (a 0) 24 (cN F), aJ t (a 1) 24 (G)]) sz)) 0 0 (va_A ([oX x a (((R : Nat) : Int)), aI t (a 0) 24 (cN F), aJ t (a 1) 24 (G)]) sz) := by
  refine Met.ofW (cc := cX6_added) (maxL := 5) (ret := (some .int)) (by decide) rfl ?_
  intro p e s m args below meth c s₁ B hml hv
  obtain ⟨rfl, hsz, hP, hK, hD0⟩ := hv
  have hx := B.exec
  have hb := B.bytes
  have hr := B.returns
  have hts := atoms_spec (ws := wsX6_added) B.pre
  have hown : s.vm.findClass RX6 = some m.cls := findClass_of_methodNamed B.named
  have hlocks := B.notSynchronized
  subst hsz
  have hD := hD0.self (sz := s.heap.size)
  generalize hAe : va_A ([oX x a (((R : Nat) : Int)), aI t (a 0) 24 (cN F), aJ t (a 1) 24 (G)]) s.heap.size = AA at hD ⊢
  have hA : ∀ q : Nat, s.heap.size ≤ q → AA q := fun q h => by rw [← hAe]; exact Or.inr h
  have hS : va_S AA s.heap s.heap [] := va_S.rf
  have hP : va_P D vwCl ([oX x a (((R : Nat) : Int)), aI t (a 0) 24 (cN F), aJ t (a 1) 24 (G)]) s.heap := hP
  have hl := lv_entry ([.ref x, .int (zI (n)), .long (lN (v))]) (n := 5) (Nat.le_of_ble_eq_true rfl)
  rw [lg_entry_eq]
  generalize (lg_sl ([.ref x, .int (zI (n)), .long (lN (v))]) ++ List.replicate (5 - (lg_sl ([.ref x, .int (zI (n)), .long (lN (v))])).length) Slot.unset).toArray = ls at hl ⊢
  have hl : lv_has ls 5 [(0, .ref x), (1, .int (zI (n))), (2, .long (lN (v)))] := hl
  have iX6 : ∀ w ∈ u_ws RX6 TX6 7, w ∈ wsX6_added := by decide +kernel
  refine lv_aload_n hx hb dX6_added_0 rfl (lv_at hl 0 rfl) ?_
  refine va_get (D := D) (ci := 5) (v := .int (zI (((R : Nat) : Int)))) (C := RX6) (T := TX6) (N := 7) hx hb hts iX6 hown hK hP 0 rfl rfl 6 (by decide) (hts (.fieldLink RX6 38 "CancelRows" "rows" "I") (by decide +kernel)) (fun _ h9 => h9) rfl dX6_added_1 ?_
  refine lv_istore (lv' := [(4, .int (zI (((R : Nat) : Int)))), (0, .ref x), (1, .int (zI (n))), (2, .long (lN (v)))]) hx hb dX6_added_4 hl (by decide) rfl (fun ls hl => ?_)
  refine lv_aload_n hx hb dX6_added_6 rfl (lv_at hl 1 rfl) ?_
  refine va_get (D := D) (ci := 5) (v := .ref (a 0)) (C := RX6) (T := TX6) (N := 7) hx hb hts iX6 hown hK hP 0 rfl rfl 0 (by decide) (hts (.fieldLink RX6 9 "CancelRows" "lengths" "[I") (by decide +kernel)) (fun _ h9 => h9) rfl dX6_added_7 ?_
  refine lv_iload hx hb dX6_added_10 (lv_at hl 0 rfl) ?_
  refine lv_iload_n hx hb dX6_added_12 rfl (lv_at hl 2 rfl) ?_
  refine z_iast hx hb hK hP hD hS 1 0 rfl rfl (R) (by omega) (by omega) (by omega) dX6_added_13 (fun H locs hP hD hS => ?_)
  have hP : va_P D vwCl [oX x a (((R : Nat) : Int)), aI t (a 0) 24 (va_up (cN F) (R) (((n) : Nat) : Int)), aJ t (a 1) 24 (G)] H := hP
  have hD : va_D AA [oX x a (((R : Nat) : Int)), aI t (a 0) 24 (va_up (cN F) (R) (((n) : Nat) : Int)), aJ t (a 1) 24 (G)] := hD
  rw [cN_up] at hP hD
  refine lv_aload_n hx hb dX6_added_14 rfl (lv_at hl 1 rfl) ?_
  refine va_get (D := D) (ci := 5) (v := .ref (a 1)) (C := RX6) (T := TX6) (N := 7) hx hb hts iX6 hown hK hP 0 rfl rfl 1 (by decide) (hts (.fieldLink RX6 13 "CancelRows" "numbers" "[J") (by decide +kernel)) (fun _ h9 => h9) rfl dX6_added_15 ?_
  refine lv_iload hx hb dX6_added_18 (lv_at hl 0 rfl) ?_
  refine lv_lload_n hx hb dX6_added_20 rfl (lv_at hl 3 rfl) ?_
  refine l_last hx hb hK hP hD hS 2 1 rfl rfl (R) (by omega) (by omega) (by omega) dX6_added_21 (fun H locs hP hD hS => ?_)
  have hP : va_P D vwCl [oX x a (((R : Nat) : Int)), aI t (a 0) 24 (cN (va_up (F) (R) (n))), aJ t (a 1) 24 (va_up (G) (R) (v))] H := hP
  have hD : va_D AA [oX x a (((R : Nat) : Int)), aI t (a 0) 24 (cN (va_up (F) (R) (n))), aJ t (a 1) 24 (va_up (G) (R) (v))] := hD
  refine lv_aload_n hx hb dX6_added_22 rfl (lv_at hl 1 rfl) ?_
  refine lv_dup hx hb dX6_added_23 rfl ?_
  refine va_get (D := D) (ci := 5) (v := .int (zI (((R : Nat) : Int)))) (C := RX6) (T := TX6) (N := 7) hx hb hts iX6 hown hK hP 0 rfl rfl 6 (by decide) (hts (.fieldLink RX6 38 "CancelRows" "rows" "I") (by decide +kernel)) (fun _ h9 => h9) rfl dX6_added_24 ?_
  refine lv_iconst (v := zI 1) hx hb dX6_added_27 rfl ?_
  refine z_iadd hx hb dX6_added_28 ?_
  refine z_re (e2 := ((R + 1 : Nat) : Int)) (by omega) ?_
  refine va_put (D := D) (ci := 5) (v := .int (zI (((R + 1 : Nat) : Int)))) (ty := .int) (C := RX6) (T := TX6) (N := 7) hx hb hts iX6 tyX6 tyX6_ok nmX6 hown hK hP hD hS 0 rfl rfl 6 (by decide) (hts (.fieldLink RX6 38 "CancelRows" "rows" "I") (by decide +kernel)) (fun _ h9 => h9) rfl (by decide +kernel) rfl rfl (Nat.le_of_ble_eq_true rfl) dX6_added_29 (fun H locs hP hD hS => ?_)
  have hP : va_P D vwCl [oX x a (((R + 1 : Nat) : Int)), aI t (a 0) 24 (cN (va_up (F) (R) (n))), aJ t (a 1) 24 (va_up (G) (R) (v))] H := hP
  have hD : va_D AA [oX x a (((R + 1 : Nat) : Int)), aI t (a 0) 24 (cN (va_up (F) (R) (n))), aJ t (a 1) 24 (va_up (G) (R) (v))] := hD
  refine lv_iload hx hb dX6_added_32 (lv_at hl 0 rfl) ?_
  have hP := hP.sub (ws' := [oX x a (((R + 1 : Nat) : Int)), aI t (a 0) 24 (cN (va_up F R n)), aJ t (a 1) 24 (va_up G R v)]) [0, 1, 2] rfl
  have hD := hD.sub (ws' := [oX x a (((R + 1 : Nat) : Int)), aI t (a 0) 24 (cN (va_up F R n)), aJ t (a 1) 24 (va_up G R v)]) [0, 1, 2] (by decide) rfl
  exact W.iret (v := (zI (((R : Nat) : Int)))) hx hb hr (fun tq ht hW => ⟨⟨_, (R + 1, va_up F R n, va_up G R v), rfl, ⟨rfl, rfl⟩, by rw [ht]; exact hP, va_K.moved hW.alike hK, hD⟩, hS.F ht⟩) hS.2.2 dX6_added_34
