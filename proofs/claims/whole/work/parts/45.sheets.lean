/-! sheets -/
def cutI (la v : Int) : Int := if la = 0 then ((zI v).toInt8.toInt32).toInt else if la = 1 then ((zI v).toInt16.toInt32).toInt else v
theorem cut_0 (v : Int) : (zI v).toInt8.toInt32 = zI (cutI 0 v) := by unfold cutI; rw [if_pos rfl]; exact zI_as _
theorem cut_1 (v : Int) : (zI v).toInt16.toInt32 = zI (cutI 1 v) := by unfold cutI; rw [if_neg (by decide), if_pos rfl]; exact zI_as _
theorem cut_2 {la v : Int} (h0 : ¬ la = 0) (h1 : ¬ la = 1) : v = cutI la v := by unfold cutI; rw [if_neg h0, if_neg h1]
theorem cut_rng {la v : Int} (h : -2147483648 ≤ v ∧ v < 2147483648) : -2147483648 ≤ cutI la v ∧ cutI la v < 2147483648 := by
  unfold cutI
  split
  · exact zI_rng _
  · split
    · exact zI_rng _
    · exact h
theorem sh24 (x : Int) : zI (x * 2 ^ 24) >>> (zI 24 &&& 31) = (zI x).toInt8.toInt32 := by
  apply Int32.toInt_inj.mp
  rw [pk_shr _ _ 24 (by decide), Int.shiftRight_eq_div_pow]
  show (Int32.ofInt (x * 2 ^ 24)).toInt / _ = (Int32.ofInt x).toInt8.toInt32.toInt
  rw [Int8.toInt_toInt32, Int32.toInt_toInt8, Int32.toInt_ofInt, Int32.toInt_ofInt]
  simp only [Int32.size, Int.bmod]
  split <;> split <;> split <;> omega
theorem sh16 (x : Int) : zI (x * 2 ^ 16) >>> (zI 16 &&& 31) = (zI x).toInt16.toInt32 := by
  apply Int32.toInt_inj.mp
  rw [pk_shr _ _ 16 (by decide), Int.shiftRight_eq_div_pow]
  show (Int32.ofInt (x * 2 ^ 16)).toInt / _ = (Int32.ofInt x).toInt16.toInt32.toInt
  rw [Int16.toInt_toInt32, Int32.toInt_toInt16, Int32.toInt_ofInt, Int32.toInt_ofInt]
  simp only [Int32.size, Int.bmod]
  split <;> split <;> split <;> omega
def shOK (La : Nat → Int) (Sz : Nat → Nat) (Ce : Nat → Int) : Prop := (∀ k, k < 4 → (La k = -4 ∨ La k = 0 ∨ La k = 1 ∨ La k = 2) ∧ Sz k ≤ 64) ∧ ∀ j, -2147483648 ≤ Ce j ∧ Ce j < 2147483648
abbrev isK (k : Int) : Prop := 0 ≤ k ∧ k ≤ 3
abbrev isL (l : Int) : Prop := 0 ≤ l ∧ l ≤ 2
abbrev ShT : Type := (Nat → Int) × (Nat → Nat) × (Nat → Int)
def fil (Ce : Nat → Int) (k i : Nat) : Nat → Int := fun j => if 64 * k ≤ j ∧ j < 64 * k + i then 0 else Ce j
theorem fil_0 (Ce : Nat → Int) (k : Nat) : fil Ce k 0 = Ce := by funext j; simp [fil]; intro h1 h2; omega
theorem fil_s (Ce : Nat → Int) (k i : Nat) : va_up (fil Ce k i) (64 * k + i) 0 = fil Ce k (i + 1) := by
  funext j
  simp only [va_up, fil]
  by_cases h : j = 64 * k + i
  · rw [if_pos h, if_pos (by omega)]
  · rw [if_neg h]
    by_cases g : 64 * k ≤ j ∧ j < 64 * k + i
    · rw [if_pos g, if_pos (by omega)]
    · rw [if_neg g, if_neg (by omega)]
def sp_sheet (La : Nat → Int) (Sz : Nat → Nat) (Ce : Nat → Int) (k l n : Int) : Int × ShT := if isK k ∧ isL l ∧ n ≤ 64 then (if n < 0 then (-14, La, Sz, Ce) else (1, va_up La k.toNat l, va_up Sz k.toNat n.toNat, fil Ce k.toNat 64)) else (-1, La, Sz, Ce)
def sp_lay (La : Nat → Int) (Sz : Nat → Nat) (Ce : Nat → Int) (k i v : Int) : Int × (Nat → Int) := if isK k then (if La k.toNat = -4 then (-11, Ce) else if 0 ≤ i ∧ i < ((Sz k.toNat : Nat) : Int) then (1, va_up Ce (64 * k.toNat + i.toNat) (cutI (La k.toNat) v)) else (-12, Ce)) else (-1, Ce)
/-- drawing: 0, or the first fault -/
def dr (C : Nat → Int) (n : Nat) (f : Int) : Nat → Nat → Int
  | 0, _ => 0
  | m + 1, i => if ¬ (0 ≤ f + i ∧ f + i < n) then -12 else if ¬ C (f + i).toNat = 1 ∧ ¬ C (f + i).toNat = -1 then -20 - i else dr C n f m (i + 1)
theorem dr_s (C : Nat → Int) (n : Nat) (f : Int) {c i : Nat} (h : i < c) : dr C n f (c - i) i = (if ¬ (0 ≤ f + (i : Int) ∧ f + (i : Int) < (n : Int)) then (-12 : Int) else if ¬ C (f + (i : Int)).toNat = 1 ∧ ¬ C (f + (i : Int)).toNat = -1 then -20 - (i : Int) else dr C n f (c - (i + 1)) (i + 1)) := by
  rw [show c - i = (c - (i + 1)) + 1 by omega]
  rfl
theorem dr_v (C : Nat → Int) (n : Nat) (f : Int) {c i : Nat} (h : i < c) (h1 : 0 ≤ f + (i : Int) ∧ f + (i : Int) < (n : Int)) (h2 : ¬ C (f + (i : Int)).toNat = 1) (h3 : ¬ C (f + (i : Int)).toNat = -1) : dr C n f (c - i) i = -20 - (i : Int) := by
  rw [dr_s C n f h, if_neg (not_not_intro h1), if_pos ⟨h2, h3⟩]
theorem dr_e (C : Nat → Int) (n : Nat) (f : Int) {c i : Nat} (h : c ≤ i) : dr C n f (c - i) i = 0 := by rw [show c - i = 0 by omega]; rfl
def drB (C : Nat → Int) (f : Int) : Nat → Bool := fun i => decide (C (f + i).toNat < 0)
theorem dr_0 {C : Nat → Int} {f : Int} {i : Nat} (h : 0 ≤ C (f + i).toNat) : ob (drB C f) i ||| 0 = ob (drB C f) (i + 1) := by
  show _ = ob (drB C f) i ||| (if drB C f i then 1 <<< i else 0)
  rw [if_neg (by simp only [drB, decide_eq_true_eq]; omega)]
theorem dr_1 {C : Nat → Int} {f : Int} {i : Nat} (h : C (f + i).toNat < 0) : ob (drB C f) i ||| (1 <<< i) = ob (drB C f) (i + 1) := by
  show _ = ob (drB C f) i ||| (if drB C f i then 1 <<< i else 0)
  rw [if_pos (by simp only [drB, decide_eq_true_eq]; exact h)]
abbrev sht (Ce : Nat → Int) (k : Nat) : Nat → Int := fun i => Ce (64 * k + i)
def sp_draw (R : Nat) (F G : Nat → Nat) (La : Nat → Int) (Sz : Nat → Nat) (Ce : Nat → Int) (k l f n : Int) : Int × RT := if isK k ∧ isL l ∧ 1 ≤ n ∧ n ≤ 32 then (if La k.toNat = -4 then (-11, R, F, G) else if ¬ La k.toNat = l then (-13, R, F, G) else if dr (sht Ce k.toNat) (Sz k.toNat) f n.toNat 0 = 0 then sp_add R F G n.toNat (ob (drB (sht Ce k.toNat) f) n.toNat) else (dr (sht Ce k.toNat) (Sz k.toNat) f n.toNat 0, R, F, G)) else (-1, R, F, G)
def sp_count (R : Nat) (La : Nat → Int) (Sz : Nat → Nat) (w : Int) : Int := if w = 0 then (R : Int) else if w = 1 then (if La 0 = -4 then -4 else ((Sz 0 : Nat) : Int)) else -1
-- Sheet(lane, n)
set_option maxHeartbeats 4000000 in
set_option maxRecDepth 100000 in
theorem c_X2_init (l : Launch) (D : va_G) (t : Nat → ClassId) (sz : Nat) (q : Nat) (l0 n : Int) (gl0 : -2147483648 ≤ l0 ∧ l0 < 2147483648) (gn : 0 ≤ n ∧ n ≤ 64) : Met l yX2_init wsX2_init ({ frames := 1, cells := 1, slots := 64, locals := 24 }) (va_Pc [.ref q, .int (zI (l0)), .int (zI (n))] (fun U => U.heap.size = sz ∧ va_P D vwCl ([(q, .inr (4, [.int (zI (0)), .null]))]) U.heap ∧ va_K D vwCl (TY t) U ∧ va_D (fun _ => True) ([(q, .inr (4, [.int (zI (0)), .null]))]))) (va_Qv (fun (u : Nat) => True) (fun (u : Nat) t1 => va_P D vwCl ([(q, .inr (4, [.int (zI (l0)), .ref u])), aI t u n.toNat (fun _ => 0)]) t1.heap ∧ va_K D vwCl (TY t) t1 ∧ va_D (va_A ([(q, .inr (4, [.int (zI (0)), .null]))]) sz) ([(q, .inr (4, [.int (zI (l0)), .ref u])), aI t u n.toNat (fun _ => 0)])) (va_A ([(q, .inr (4, [.int (zI (0)), .null]))]) sz)) 1 64 (va_A ([(q, .inr (4, [.int (zI (0)), .null]))]) sz) := by
  refine Met.ofW (cc := cX2_init) (maxL := 3) (ret := none) (by decide) rfl ?_
  intro p e s m args below meth c s₁ B hml hv
  obtain ⟨rfl, hsz, hP, hK, hD0⟩ := hv
  have hx := B.exec
  have hb := B.bytes
  have hr := B.returns
  have hts := atoms_spec (ws := wsX2_init) B.pre
  have hown : s.vm.findClass RX2 = some m.cls := findClass_of_methodNamed B.named
  have hlocks := B.notSynchronized
  have hin : meth.name = "<init>" := (name_of_methodNamed B.named B.method).1
  subst hsz
  have hD := hD0.self (sz := s.heap.size)
  generalize hAe : va_A ([(q, .inr (4, [.int (zI (0)), .null]))]) s.heap.size = AA at hD ⊢
  have hA : ∀ q : Nat, s.heap.size ≤ q → AA q := fun q h => by rw [← hAe]; exact Or.inr h
  have hS : va_S AA s.heap s.heap [] := va_S.rf
  have hP : va_P D vwCl ([(q, .inr (4, [.int (zI (0)), .null]))]) s.heap := hP
  have hl := lv_entry ([.ref q, .int (zI (l0)), .int (zI (n))]) (n := 3) (Nat.le_of_ble_eq_true rfl)
  rw [lg_entry_eq]
  generalize (lg_sl ([.ref q, .int (zI (l0)), .int (zI (n))]) ++ List.replicate (3 - (lg_sl ([.ref q, .int (zI (l0)), .int (zI (n))])).length) Slot.unset).toArray = ls at hl ⊢
  have hl : lv_has ls 3 [(0, .ref q), (1, .int (zI (l0))), (2, .int (zI (n)))] := hl
  have iX2 : ∀ w ∈ u_ws RX2 TX2 2, w ∈ wsX2_init := by decide +kernel
  refine lv_aload_n hx hb dX2_init_0 rfl (lv_at hl 0 rfl) ?_
  refine W.objInit hx hb hown (hts (.methodLink RX2 1 objectInit) (by decide +kernel)) (hts (.instanceMethod objectInit) (by decide +kernel)) (hts (.code objectInit ⟨#[0xb1]⟩ 1 none) (by decide +kernel)) rfl (by rw [hml]; exact hl.1) rfl dX2_init_1 (Nat.le_of_ble_eq_true rfl) (Nat.le_of_ble_eq_true rfl) ?_
  refine W.eq (g2 := F0 m 4 ls []) rfl ?_
  refine lv_aload_n hx hb dX2_init_4 rfl (lv_at hl 0 rfl) ?_
  refine lv_iload_n hx hb dX2_init_5 rfl (lv_at hl 1 rfl) ?_
  refine va_putF (D := D) (ci := 4) (v := .int (zI (l0))) (ty := .int) (C := RX2) (T := TX2) (N := 2) hx hb hts iX2 tyX2 tyX2_ok nmX2 hown hK hP hD hS 0 rfl rfl 0 (by decide) (hts (.fieldLink RX2 7 "CancelRows$Sheet" "lane" "I") (by decide +kernel)) (fun _ h9 => h9) rfl hin rfl (by decide +kernel) rfl rfl (Nat.le_of_ble_eq_true rfl) dX2_init_6 (fun H locs hP hD hS => ?_)
  have hP : va_P D vwCl [(q, .inr (4, [.int (zI (l0)), .null]))] H := hP
  have hD : va_D AA [(q, .inr (4, [.int (zI (l0)), .null]))] := hD
  refine lv_aload_n hx hb dX2_init_9 rfl (lv_at hl 0 rfl) ?_
  refine lv_iload_n hx hb dX2_init_10 rfl (lv_at hl 2 rfl) ?_
  refine lv_iconst (v := zI 0) hx hb dX2_init_11 rfl ?_
  refine z_mmax hx hb (hml.trans hl.1.symm) hown (hts (.methodLink RX2 13 Lib.Math.max.name) (by decide +kernel)) (hts (.static Lib.Math.max.name) (by decide +kernel)) (hts (.initialized "java/lang/Math") (by decide +kernel)) (hts (.code Lib.Math.max.name Lib.Math.max.code 2 (some .int)) (by decide +kernel)) (Nat.le_of_ble_eq_true rfl) (Nat.le_of_ble_eq_true rfl) (Nat.le_of_ble_eq_true rfl) (Nat.le_of_ble_eq_true rfl) (by omega) (by omega) dX2_init_12 ?_
  refine z_re (e2 := ((n.toNat : Nat) : Int)) (by omega) ?_
  refine z_newI hx hb (hts (.arrayClass .int) (by decide +kernel)) hK hP hD hS hA 0 rfl (n.toNat) (by omega) (by omega) (Nat.le_of_ble_eq_true rfl) (by show _ ≤ 64; omega) dX2_init_15 (fun q15 H hP hD hS => ?_)
  have hP : va_P D vwCl [(q, .inr (4, [.int (zI (l0)), .null])), aI t q15 n.toNat (fun _ => 0)] H := hP
  have hD : va_D AA [(q, .inr (4, [.int (zI (l0)), .null])), aI t q15 n.toNat (fun _ => 0)] := hD
  refine W.widen (k := 1) (n := 64) (by omega) (by omega) ?_
  refine va_putF (D := D) (ci := 4) (v := .ref q15) (ty := .array .int) (C := RX2) (T := TX2) (N := 2) hx hb hts iX2 tyX2 tyX2_ok nmX2 hown hK hP hD hS 0 rfl rfl 1 (by decide) (hts (.fieldLink RX2 19 "CancelRows$Sheet" "cells" "[I") (by decide +kernel)) (fun _ h9 => h9) rfl hin rfl (by decide +kernel) rfl rfl (Nat.le_of_ble_eq_true rfl) dX2_init_17 (fun H locs hP hD hS => ?_)
  have hP : va_P D vwCl [(q, .inr (4, [.int (zI (l0)), .ref q15])), aI t q15 n.toNat (fun _ => 0)] H := hP
  have hD : va_D AA [(q, .inr (4, [.int (zI (l0)), .ref q15])), aI t q15 n.toNat (fun _ => 0)] := hD
  exact W.vret hx hb hr (fun tq ht hW => ⟨⟨(q15), rfl, trivial, by rw [ht]; exact hP, va_K.moved hW.alike hK, hD⟩, hS.F ht⟩) hS.2.2 dX2_init_20

-- size
set_option maxHeartbeats 4000000 in
set_option maxRecDepth 100000 in
theorem c_X2_size (l : Launch) (D : va_G) (t : Nat → ClassId) (q r0 n : Nat) (la : Int) (C : Nat → Int) (gn : n ≤ 64) : Met l yX2_size wsX2_size ({ frames := 0, cells := 0, slots := 0, locals := 0 }) (va_Pc [.ref q] (fun U => va_P D vwCl ([(q, .inr (4, [.int (zI (la)), .ref r0])), aI t r0 n (C)]) U.heap ∧ va_K D vwCl (TY t) U)) (vp_Si (fun r => r = zI (n : Int))) 0 0 (fun _ => False) := by
  refine Met.ofW (cc := cX2_size) (maxL := 1) (ret := (some .int)) (by decide) rfl ?_
  intro p e s m args below meth c s₁ B hml hv
  obtain ⟨rfl, hP, hK⟩ := hv
  have hx := B.exec
  have hb := B.bytes
  have hr := B.returns
  have hts := atoms_spec (ws := wsX2_size) B.pre
  have hown : s.vm.findClass RX2 = some m.cls := findClass_of_methodNamed B.named
  have hlocks := B.notSynchronized
  have hl := lv_entry ([.ref q]) (n := 1) (Nat.le_of_ble_eq_true rfl)
  rw [lg_entry_eq]
  generalize (lg_sl ([.ref q]) ++ List.replicate (1 - (lg_sl ([.ref q])).length) Slot.unset).toArray = ls at hl ⊢
  have hl : lv_has ls 1 [(0, .ref q)] := hl
  have iX2 : ∀ w ∈ u_ws RX2 TX2 2, w ∈ wsX2_size := by decide +kernel
  refine lv_aload_n hx hb dX2_size_0 rfl (lv_at hl 0 rfl) ?_
  refine va_get (D := D) (ci := 4) (v := .ref r0) (C := RX2) (T := TX2) (N := 2) hx hb hts iX2 hown hK hP 0 rfl rfl 1 (by decide) (hts (.fieldLink RX2 19 "CancelRows$Sheet" "cells" "[I") (by decide +kernel)) (fun _ h9 => h9) rfl dX2_size_1 ?_
  refine va_alen (v := zI ((n : Nat) : Int)) hx hb hK hP 1 0 rfl rfl (zI_nI _) dX2_size_4 ?_
  exact W.iret (v := (zI (((n : Nat) : Int)))) hx hb hr (fun tq ht hW => ⟨_, rfl, rfl, ht⟩) (fun q h => by cases h) dX2_size_5

-- has
set_option maxHeartbeats 4000000 in
set_option maxRecDepth 100000 in
theorem c_X2_has (l : Launch) (D : va_G) (t : Nat → ClassId) (q r0 n : Nat) (la : Int) (C : Nat → Int) (gn : n ≤ 64) (i : Int) (gi : -2147483648 ≤ i ∧ i < 2147483648) : Met l yX2_has wsX2_has ({ frames := 0, cells := 0, slots := 0, locals := 0 }) (va_Pc [.ref q, .int (zI (i))] (fun U => va_P D vwCl ([(q, .inr (4, [.int (zI (la)), .ref r0])), aI t r0 n (C)]) U.heap ∧ va_K D vwCl (TY t) U)) (vp_Si (fun r => r = zI (bP (0 ≤ i ∧ i < (n : Int))))) 0 0 (fun _ => False) := by
  refine Met.ofW (cc := cX2_has) (maxL := 2) (ret := (some .boolean)) (by decide) rfl ?_
  intro p e s m args below meth c s₁ B hml hv
  obtain ⟨rfl, hP, hK⟩ := hv
  have hx := B.exec
  have hb := B.bytes
  have hr := B.returns
  have hts := atoms_spec (ws := wsX2_has) B.pre
  have hown : s.vm.findClass RX2 = some m.cls := findClass_of_methodNamed B.named
  have hlocks := B.notSynchronized
  have hl := lv_entry ([.ref q, .int (zI (i))]) (n := 2) (Nat.le_of_ble_eq_true rfl)
  rw [lg_entry_eq]
  generalize (lg_sl ([.ref q, .int (zI (i))]) ++ List.replicate (2 - (lg_sl ([.ref q, .int (zI (i))])).length) Slot.unset).toArray = ls at hl ⊢
  have hl : lv_has ls 2 [(0, .ref q), (1, .int (zI (i)))] := hl
  have iX2 : ∀ w ∈ u_ws RX2 TX2 2, w ∈ wsX2_has := by decide +kernel
  refine lv_iload_n hx hb dX2_has_0 rfl (lv_at hl 1 rfl) ?_
  refine z_if_lt (tgt := 17) hx hb dX2_has_1 (by decide) (by omega) (fun c1 => ?_) (fun c1 => ?_)
  · refine lv_iconst (v := zI 0) hx hb dX2_has_17 rfl ?_
    exact W.zret (v := (zI (0))) hx hb hr (nar_b _ (by first | exact Or.inl rfl | exact Or.inr rfl | exact bP_or _)) (fun tq ht hW => ⟨_, rfl, by rw [bP_0 (fun z => by obtain ⟨z1, z2⟩ := z; omega)], ht⟩) (fun q h => by cases h) dX2_has_18
  · refine lv_iload_n hx hb dX2_has_4 rfl (lv_at hl 1 rfl) ?_
    refine lv_aload_n hx hb dX2_has_5 rfl (lv_at hl 0 rfl) ?_
    refine va_get (D := D) (ci := 4) (v := .ref r0) (C := RX2) (T := TX2) (N := 2) hx hb hts iX2 hown hK hP 0 rfl rfl 1 (by decide) (hts (.fieldLink RX2 19 "CancelRows$Sheet" "cells" "[I") (by decide +kernel)) (fun _ h9 => h9) rfl dX2_has_6 ?_
    refine va_alen (v := zI ((n : Nat) : Int)) hx hb hK hP 1 0 rfl rfl (zI_nI _) dX2_has_9 ?_
    refine z_icmp_ge (tgt := 17) hx hb dX2_has_10 (by decide) (by omega) (by omega) (fun c10 => ?_) (fun c10 => ?_)
    · refine lv_iconst (v := zI 0) hx hb dX2_has_17 rfl ?_
      exact W.zret (v := (zI (0))) hx hb hr (nar_b _ (by first | exact Or.inl rfl | exact Or.inr rfl | exact bP_or _)) (fun tq ht hW => ⟨_, rfl, by rw [bP_0 (fun z => by obtain ⟨z1, z2⟩ := z; omega)], ht⟩) (fun q h => by cases h) dX2_has_18
    · refine lv_iconst (v := zI 1) hx hb dX2_has_13 rfl ?_
      refine lv_goto (tgt := 18) hx hb dX2_has_14 (by decide) ?_
      exact W.zret (v := (zI (1))) hx hb hr (nar_b _ (by first | exact Or.inl rfl | exact Or.inr rfl | exact bP_or _)) (fun tq ht hW => ⟨_, rfl, by rw [bP_1 ⟨by omega, by omega⟩], ht⟩) (fun q h => by cases h) dX2_has_18

-- read
set_option maxHeartbeats 4000000 in
set_option maxRecDepth 100000 in
theorem c_X2_read (l : Launch) (D : va_G) (t : Nat → ClassId) (q r0 n : Nat) (la : Int) (C : Nat → Int) (gn : n ≤ 64) (i : Int) (gi : -2147483648 ≤ i ∧ i < 2147483648) (hi : 0 ≤ i ∧ i < (n : Int)) : Met l yX2_read wsX2_read ({ frames := 1, cells := 0, slots := 0, locals := 21 }) (va_Pc [.ref q, .int (zI (i))] (fun U => va_P D vwCl ([(q, .inr (4, [.int (zI (la)), .ref r0])), aI t r0 n (C)]) U.heap ∧ va_K D vwCl (TY t) U)) (vp_Si (fun r => r = zI (C i.toNat))) 0 0 (fun _ => False) := by
  refine Met.ofW (cc := cX2_read) (maxL := 2) (ret := (some .int)) (by decide) rfl ?_
  intro p e s m args below meth c s₁ B hml hv
  obtain ⟨rfl, hP, hK⟩ := hv
  have hx := B.exec
  have hb := B.bytes
  have hr := B.returns
  have hts := atoms_spec (ws := wsX2_read) B.pre
  have hown : s.vm.findClass RX2 = some m.cls := findClass_of_methodNamed B.named
  have hlocks := B.notSynchronized
  have hl := lv_entry ([.ref q, .int (zI (i))]) (n := 2) (Nat.le_of_ble_eq_true rfl)
  rw [lg_entry_eq]
  generalize (lg_sl ([.ref q, .int (zI (i))]) ++ List.replicate (2 - (lg_sl ([.ref q, .int (zI (i))])).length) Slot.unset).toArray = ls at hl ⊢
  have hl : lv_has ls 2 [(0, .ref q), (1, .int (zI (i)))] := hl
  have iX2 : ∀ w ∈ u_ws RX2 TX2 2, w ∈ wsX2_read := by decide +kernel
  refine lv_aload_n hx hb dX2_read_0 rfl (lv_at hl 0 rfl) ?_
  refine lv_iload_n hx hb dX2_read_1 rfl (lv_at hl 1 rfl) ?_
  have hPc := hP.sub (ws' := [(q, .inr (4, [.int (zI (la)), .ref r0])), aI t r0 n (C)]) [0, 1] rfl
  refine vp_callSi (va_runV (As := [.int (zI (i))]) (rest := []) ⟨hx, hb, hml, hown, hts⟩ (c_X2_has l D t q r0 n la C gn (i) (by omega)) (cwV 1 hts gX2_read_X2_has rfl rfl rfl (by decide +kernel) ⟨Nat.le_of_ble_eq_true rfl, Nat.le_of_ble_eq_true rfl⟩) ⟨fun a U g mk q => ⟨q.1, q.2.1, va_K.moved (u := U) (U := U.calling g mk a) (Vm.Alike.refl U.vm) q.2.2⟩, va_recv hK hPc (ci := 4) (q0 := 0) rfl rfl, fun U hU hW => ⟨rfl, by rw [hU]; exact hPc, va_K.moved hW.alike hK⟩⟩ rfl rfl hl.1 rfl (lv_room (Nat.le_of_ble_eq_true rfl)) dX2_read_2 ⟨Nat.le_of_ble_eq_true rfl, Nat.le_of_ble_eq_true rfl⟩).run (fun r hr2 => ?_)
  obtain rfl := hr2
  refine z_ifb_eq (P := 0 ≤ (i) ∧ (i) < (n : Int)) (tgt := 17) hx hb dX2_read_5 (by decide) (fun c5 => ?_) (fun c5 => ?_)
  · exact absurd hi c5
  · refine lv_aload_n hx hb dX2_read_8 rfl (lv_at hl 0 rfl) ?_
    refine va_get (D := D) (ci := 4) (v := .ref r0) (C := RX2) (T := TX2) (N := 2) hx hb hts iX2 hown hK hP 0 rfl rfl 1 (by decide) (hts (.fieldLink RX2 19 "CancelRows$Sheet" "cells" "[I") (by decide +kernel)) (fun _ h9 => h9) rfl dX2_read_9 ?_
    refine lv_iload_n hx hb dX2_read_12 rfl (lv_at hl 1 rfl) ?_
    refine z_iald hx hb hK hP 1 0 rfl rfl (i.toNat) (by omega) (by omega) (by omega) dX2_read_13 ?_
    refine lv_goto (tgt := 18) hx hb dX2_read_14 (by decide) ?_
    exact W.iret (v := (zI ((C) (i.toNat)))) hx hb hr (fun tq ht hW => ⟨_, rfl, rfl, ht⟩) (fun q h => by cases h) dX2_read_18

-- cut
set_option maxHeartbeats 4000000 in
set_option maxRecDepth 100000 in
theorem c_X2_cut (l : Launch) (D : va_G) (t : Nat → ClassId) (q r0 n : Nat) (la : Int) (C : Nat → Int) (gl : la = 0 ∨ la = 1 ∨ la = 2) (v : Int) : Met l yX2_cut wsX2_cut ({ frames := 0, cells := 0, slots := 0, locals := 0 }) (va_Pc [.ref q, .int (zI (v))] (fun U => va_P D vwCl ([(q, .inr (4, [.int (zI (la)), .ref r0])), aI t r0 n (C)]) U.heap ∧ va_K D vwCl (TY t) U)) (vp_Si (fun r => r = zI (cutI la v))) 0 0 (fun _ => False) := by
  refine Met.ofW (cc := cX2_cut) (maxL := 2) (ret := (some .int)) (by decide) rfl ?_
  intro p e s m args below meth c s₁ B hml hv
  obtain ⟨rfl, hP, hK⟩ := hv
  have hx := B.exec
  have hb := B.bytes
  have hr := B.returns
  have hts := atoms_spec (ws := wsX2_cut) B.pre
  have hown : s.vm.findClass RX2 = some m.cls := findClass_of_methodNamed B.named
  have hlocks := B.notSynchronized
  have hl := lv_entry ([.ref q, .int (zI (v))]) (n := 2) (Nat.le_of_ble_eq_true rfl)
  rw [lg_entry_eq]
  generalize (lg_sl ([.ref q, .int (zI (v))]) ++ List.replicate (2 - (lg_sl ([.ref q, .int (zI (v))])).length) Slot.unset).toArray = ls at hl ⊢
  have hl : lv_has ls 2 [(0, .ref q), (1, .int (zI (v)))] := hl
  have iX2 : ∀ w ∈ u_ws RX2 TX2 2, w ∈ wsX2_cut := by decide +kernel
  refine lv_aload_n hx hb dX2_cut_0 rfl (lv_at hl 0 rfl) ?_
  refine va_get (D := D) (ci := 4) (v := .int (zI (la))) (C := RX2) (T := TX2) (N := 2) hx hb hts iX2 hown hK hP 0 rfl rfl 0 (by decide) (hts (.fieldLink RX2 7 "CancelRows$Sheet" "lane" "I") (by decide +kernel)) (fun _ h9 => h9) rfl dX2_cut_1 ?_
  refine z_if_ne (tgt := 10) hx hb dX2_cut_4 (by decide) (by omega) (fun c4 => ?_) (fun c4 => ?_)
  · refine lv_aload_n hx hb dX2_cut_10 rfl (lv_at hl 0 rfl) ?_
    refine va_get (D := D) (ci := 4) (v := .int (zI (la))) (C := RX2) (T := TX2) (N := 2) hx hb hts iX2 hown hK hP 0 rfl rfl 0 (by decide) (hts (.fieldLink RX2 7 "CancelRows$Sheet" "lane" "I") (by decide +kernel)) (fun _ h9 => h9) rfl dX2_cut_11 ?_
    refine lv_iconst (v := zI 1) hx hb dX2_cut_14 rfl ?_
    refine z_icmp_ne (tgt := 23) hx hb dX2_cut_15 (by decide) (by omega) (by omega) (fun c15 => ?_) (fun c15 => ?_)
    · refine lv_iload_n hx hb dX2_cut_23 rfl (lv_at hl 1 rfl) ?_
      refine z_re (e2 := cutI la v) (cut_2 (by omega) (by omega)) ?_
      exact W.iret (v := (zI (cutI la v))) hx hb hr (fun tq ht hW => ⟨_, rfl, rfl, ht⟩) (fun q h => by cases h) dX2_cut_24
    · refine lv_iload_n hx hb dX2_cut_18 rfl (lv_at hl 1 rfl) ?_
      refine lv_i2s (v := (zI (v)).toInt16.toInt32) hx hb dX2_cut_19 rfl ?_
      refine x_re (e2 := zI (cutI la v)) (by rw [show la = 1 by omega]; exact cut_1 v) ?_
      refine lv_goto (tgt := 24) hx hb dX2_cut_20 (by decide) ?_
      exact W.iret (v := (zI (cutI la v))) hx hb hr (fun tq ht hW => ⟨_, rfl, rfl, ht⟩) (fun q h => by cases h) dX2_cut_24
  · refine lv_iload_n hx hb dX2_cut_7 rfl (lv_at hl 1 rfl) ?_
    refine lv_i2b (v := (zI (v)).toInt8.toInt32) hx hb dX2_cut_8 rfl ?_
    refine x_re (e2 := zI (cutI la v)) (by rw [show la = 0 by omega]; exact cut_0 v) ?_
    exact W.iret (v := (zI (cutI la v))) hx hb hr (fun tq ht hW => ⟨_, rfl, rfl, ht⟩) (fun q h => by cases h) dX2_cut_9

-- write
set_option maxHeartbeats 4000000 in
set_option maxRecDepth 100000 in
theorem c_X2_write (l : Launch) (D : va_G) (t : Nat → ClassId) (sz : Nat) (q r0 n : Nat) (la : Int) (C : Nat → Int) (gn : n ≤ 64) (gl : la = 0 ∨ la = 1 ∨ la = 2) (i v : Int) (gi : -2147483648 ≤ i ∧ i < 2147483648) (hi : 0 ≤ i ∧ i < (n : Int)) : Met l yX2_write wsX2_write ({ frames := 1, cells := 0, slots := 0, locals := 21 }) (va_Pc [.ref q, .int (zI (i)), .int (zI (v))] (fun U => U.heap.size = sz ∧ va_P D vwCl ([(q, .inr (4, [.int (zI (la)), .ref r0])), aI t r0 n (C)]) U.heap ∧ va_K D vwCl (TY t) U ∧ va_D (fun _ => True) ([(q, .inr (4, [.int (zI (la)), .ref r0])), aI t r0 n (C)]))) (va_Qv (fun (u : Unit) => True) (fun (u : Unit) t1 => va_P D vwCl ([(q, .inr (4, [.int (zI (la)), .ref r0])), aI t r0 n (va_up C i.toNat (cutI la v))]) t1.heap ∧ va_K D vwCl (TY t) t1 ∧ va_D (va_A ([(q, .inr (4, [.int (zI (la)), .ref r0])), aI t r0 n (C)]) sz) ([(q, .inr (4, [.int (zI (la)), .ref r0])), aI t r0 n (va_up C i.toNat (cutI la v))])) (va_A ([(q, .inr (4, [.int (zI (la)), .ref r0])), aI t r0 n (C)]) sz)) 0 0 (va_A ([(q, .inr (4, [.int (zI (la)), .ref r0])), aI t r0 n (C)]) sz) := by
  refine Met.ofW (cc := cX2_write) (maxL := 3) (ret := none) (by decide) rfl ?_
  intro p e s m args below meth c s₁ B hml hv
  obtain ⟨rfl, hsz, hP, hK, hD0⟩ := hv
  have hx := B.exec
  have hb := B.bytes
  have hr := B.returns
  have hts := atoms_spec (ws := wsX2_write) B.pre
  have hown : s.vm.findClass RX2 = some m.cls := findClass_of_methodNamed B.named
  have hlocks := B.notSynchronized
  subst hsz
  have hD := hD0.self (sz := s.heap.size)
  generalize hAe : va_A ([(q, .inr (4, [.int (zI (la)), .ref r0])), aI t r0 n (C)]) s.heap.size = AA at hD ⊢
  have hA : ∀ q : Nat, s.heap.size ≤ q → AA q := fun q h => by rw [← hAe]; exact Or.inr h
  have hS : va_S AA s.heap s.heap [] := va_S.rf
  have hP : va_P D vwCl ([(q, .inr (4, [.int (zI (la)), .ref r0])), aI t r0 n (C)]) s.heap := hP
  have hl := lv_entry ([.ref q, .int (zI (i)), .int (zI (v))]) (n := 3) (Nat.le_of_ble_eq_true rfl)
  rw [lg_entry_eq]
  generalize (lg_sl ([.ref q, .int (zI (i)), .int (zI (v))]) ++ List.replicate (3 - (lg_sl ([.ref q, .int (zI (i)), .int (zI (v))])).length) Slot.unset).toArray = ls at hl ⊢
  have hl : lv_has ls 3 [(0, .ref q), (1, .int (zI (i))), (2, .int (zI (v)))] := hl
  have iX2 : ∀ w ∈ u_ws RX2 TX2 2, w ∈ wsX2_write := by decide +kernel
  refine lv_aload_n hx hb dX2_write_0 rfl (lv_at hl 0 rfl) ?_
  refine lv_iload_n hx hb dX2_write_1 rfl (lv_at hl 1 rfl) ?_
  have hPc := hP.sub (ws' := [(q, .inr (4, [.int (zI (la)), .ref r0])), aI t r0 n (C)]) [0, 1] rfl
  refine vp_callSi (va_runV (As := [.int (zI (i))]) (rest := []) ⟨hx, hb, hml, hown, hts⟩ (c_X2_has l D t q r0 n la C gn (i) (by omega)) (cwV 1 hts gX2_write_X2_has rfl rfl rfl (by decide +kernel) ⟨Nat.le_of_ble_eq_true rfl, Nat.le_of_ble_eq_true rfl⟩) ⟨fun a U g mk q => ⟨q.1, q.2.1, va_K.moved (u := U) (U := U.calling g mk a) (Vm.Alike.refl U.vm) q.2.2⟩, va_recv hK hPc (ci := 4) (q0 := 0) rfl rfl, fun U hU hW => ⟨rfl, by rw [hU]; exact hPc, va_K.moved hW.alike hK⟩⟩ rfl rfl hl.1 rfl (lv_room (Nat.le_of_ble_eq_true rfl)) dX2_write_2 ⟨Nat.le_of_ble_eq_true rfl, Nat.le_of_ble_eq_true rfl⟩).run (fun r hr2 => ?_)
  obtain rfl := hr2
  refine z_ifb_eq (P := 0 ≤ (i) ∧ (i) < (n : Int)) (tgt := 19) hx hb dX2_write_5 (by decide) (fun c5 => ?_) (fun c5 => ?_)
  · exact absurd hi c5
  · refine lv_aload_n hx hb dX2_write_8 rfl (lv_at hl 0 rfl) ?_
    refine va_get (D := D) (ci := 4) (v := .ref r0) (C := RX2) (T := TX2) (N := 2) hx hb hts iX2 hown hK hP 0 rfl rfl 1 (by decide) (hts (.fieldLink RX2 19 "CancelRows$Sheet" "cells" "[I") (by decide +kernel)) (fun _ h9 => h9) rfl dX2_write_9 ?_
    refine lv_iload_n hx hb dX2_write_12 rfl (lv_at hl 1 rfl) ?_
    refine lv_aload_n hx hb dX2_write_13 rfl (lv_at hl 0 rfl) ?_
    refine lv_iload_n hx hb dX2_write_14 rfl (lv_at hl 2 rfl) ?_
    have hPc := hP.sub (ws' := [(q, .inr (4, [.int (zI (la)), .ref r0])), aI t r0 n (C)]) [0, 1] rfl
    refine vp_callSi (va_runV (As := [.int (zI (v))]) (rest := [.int (zI (i)), .ref r0]) ⟨hx, hb, hml, hown, hts⟩ (c_X2_cut l D t q r0 n la C gl v) (cwV 1 hts gX2_write_X2_cut rfl rfl rfl (by decide +kernel) ⟨Nat.le_of_ble_eq_true rfl, Nat.le_of_ble_eq_true rfl⟩) ⟨fun a U g mk q => ⟨q.1, q.2.1, va_K.moved (u := U) (U := U.calling g mk a) (Vm.Alike.refl U.vm) q.2.2⟩, va_recv hK hPc (ci := 4) (q0 := 0) rfl rfl, fun U hU hW => ⟨rfl, by rw [hU]; exact hPc, va_K.moved hW.alike hK⟩⟩ rfl rfl hl.1 rfl (lv_room (Nat.le_of_ble_eq_true rfl)) dX2_write_15 ⟨Nat.le_of_ble_eq_true rfl, Nat.le_of_ble_eq_true rfl⟩).run (fun r hr15 => ?_)
    obtain rfl := hr15
    refine z_iast hx hb hK hP hD hS 1 0 rfl rfl (i.toNat) (by omega) (by omega) (by omega) dX2_write_18 (fun H locs hP hD hS => ?_)
    have hP : va_P D vwCl [(q, .inr (4, [.int (zI (la)), .ref r0])), aI t r0 n (va_up (C) (i.toNat) (cutI la (v)))] H := hP
    have hD : va_D AA [(q, .inr (4, [.int (zI (la)), .ref r0])), aI t r0 n (va_up (C) (i.toNat) (cutI la (v)))] := hD
    have hP := hP.sub (ws' := [(q, .inr (4, [.int (zI (la)), .ref r0])), aI t r0 n (va_up C i.toNat (cutI la v))]) [0, 1] rfl
    have hD := hD.sub (ws' := [(q, .inr (4, [.int (zI (la)), .ref r0])), aI t r0 n (va_up C i.toNat (cutI la v))]) [0, 1] (by decide) rfl
    exact W.vret hx hb hr (fun tq ht hW => ⟨⟨(), rfl, trivial, by rw [ht]; exact hP, va_K.moved hW.alike hK, hD⟩, hS.F ht⟩) hS.2.2 dX2_write_19

-- sheet, refused
set_option maxHeartbeats 4000000 in
set_option maxRecDepth 100000 in
theorem c_X6_sheet_bad (l : Launch) (x : Nat) (k l0 n : Int) (gk : -2147483648 ≤ k ∧ k < 2147483648) (gl0 : -2147483648 ≤ l0 ∧ l0 < 2147483648) (gn : -2147483648 ≤ n ∧ n < 2147483648) (hb0 : ¬ (isK k ∧ isL l0 ∧ n ≤ 64 ∧ 0 ≤ n)) (La : Nat → Int) (Sz : Nat → Nat) (Ce : Nat → Int) : Met l yX6_sheet wsX6_sheet ({ frames := 2, cells := 0, slots := 0, locals := 42 }) (va_Pc [.ref x, .int (zI (k)), .int (zI (l0)), .int (zI (n))] (fun _ => True)) (vp_Si (fun r => r = zI (sp_sheet La Sz Ce k l0 n).1 ∧ (sp_sheet La Sz Ce k l0 n).2 = (La, Sz, Ce))) 0 0 (fun _ => False) := by
  refine Met.ofW (cc := cX6_sheet) (maxL := 4) (ret := (some .int)) (by decide) rfl ?_
  intro p e s m args below meth c s₁ B hml hv
  obtain ⟨rfl, -⟩ := hv
  have hx := B.exec
  have hb := B.bytes
  have hr := B.returns
  have hts := atoms_spec (ws := wsX6_sheet) B.pre
  have hown : s.vm.findClass RX6 = some m.cls := findClass_of_methodNamed B.named
  have hlocks := B.notSynchronized
  have hl := lv_entry ([.ref x, .int (zI (k)), .int (zI (l0)), .int (zI (n))]) (n := 4) (Nat.le_of_ble_eq_true rfl)
  rw [lg_entry_eq]
  generalize (lg_sl ([.ref x, .int (zI (k)), .int (zI (l0)), .int (zI (n))]) ++ List.replicate (4 - (lg_sl ([.ref x, .int (zI (k)), .int (zI (l0)), .int (zI (n))])).length) Slot.unset).toArray = ls at hl ⊢
  have hl : lv_has ls 4 [(0, .ref x), (1, .int (zI (k))), (2, .int (zI (l0))), (3, .int (zI (n)))] := hl
  refine lv_iload_n hx hb dX6_sheet_0 rfl (lv_at hl 1 rfl) ?_
  refine vp_callSi (va_runS (As := [.int (zI (k))]) (rest := []) ⟨hx, hb, hml, hown, hts⟩ (c_X6_isSheet l k gk) (va_cwS 1 hts gX6_sheet_X6_isSheet rfl rfl rfl (by decide +kernel) ⟨Nat.le_of_ble_eq_true rfl, Nat.le_of_ble_eq_true rfl⟩) ⟨fun a U g mk q => q, fun U hU hW => ⟨rfl, trivial⟩⟩ rfl rfl hl.1 rfl (lv_room (Nat.le_of_ble_eq_true rfl)) dX6_sheet_1 ⟨Nat.le_of_ble_eq_true rfl, Nat.le_of_ble_eq_true rfl⟩).run (fun r hr1 => ?_)
  obtain rfl := hr1
  refine z_ifb_eq (P := 0 ≤ (k) ∧ (k) ≤ 3) (tgt := 20) hx hb dX6_sheet_4 (by decide) (fun c4 => ?_) (fun c4 => ?_)
  · refine lv_iconst (v := zI (-1)) hx hb dX6_sheet_20 rfl ?_
    exact W.iret (v := (zI ((-1)))) hx hb hr (fun tq ht hW => ⟨_, rfl, by rw [sp_sheet, if_neg (fun z => c4 z.1)]; exact ⟨rfl, rfl⟩, ht⟩) (fun q h => by cases h) dX6_sheet_21
  · refine lv_iload_n hx hb dX6_sheet_7 rfl (lv_at hl 2 rfl) ?_
    refine vp_callSi (va_runS (As := [.int (zI (l0))]) (rest := []) ⟨hx, hb, hml, hown, hts⟩ (c_X6_isLane l l0 gl0) (va_cwS 1 hts gX6_sheet_X6_isLane rfl rfl rfl (by decide +kernel) ⟨Nat.le_of_ble_eq_true rfl, Nat.le_of_ble_eq_true rfl⟩) ⟨fun a U g mk q => q, fun U hU hW => ⟨rfl, trivial⟩⟩ rfl rfl hl.1 rfl (lv_room (Nat.le_of_ble_eq_true rfl)) dX6_sheet_8 ⟨Nat.le_of_ble_eq_true rfl, Nat.le_of_ble_eq_true rfl⟩).run (fun r hr8 => ?_)
    obtain rfl := hr8
    refine z_ifb_eq (P := 0 ≤ (l0) ∧ (l0) ≤ 2) (tgt := 20) hx hb dX6_sheet_11 (by decide) (fun c11 => ?_) (fun c11 => ?_)
    · refine lv_iconst (v := zI (-1)) hx hb dX6_sheet_20 rfl ?_
      exact W.iret (v := (zI ((-1)))) hx hb hr (fun tq ht hW => ⟨_, rfl, by rw [sp_sheet, if_neg (fun z => c11 z.2.1)]; exact ⟨rfl, rfl⟩, ht⟩) (fun q h => by cases h) dX6_sheet_21
    · refine lv_iload_n hx hb dX6_sheet_14 rfl (lv_at hl 3 rfl) ?_
      refine lv_bipush (v := zI 64) hx hb dX6_sheet_15 (by decide +kernel) ?_
      refine z_icmp_le (tgt := 22) hx hb dX6_sheet_17 (by decide) (by omega) (by omega) (fun c17 => ?_) (fun c17 => ?_)
      · refine lv_iload_n hx hb dX6_sheet_22 rfl (lv_at hl 3 rfl) ?_
        refine z_if_ge (tgt := 29) hx hb dX6_sheet_23 (by decide) (by omega) (fun c23 => ?_) (fun c23 => ?_)
        · exact absurd ⟨c4, c11, by omega, by omega⟩ hb0
        · refine lv_bipush (v := zI (-14)) hx hb dX6_sheet_26 (by decide +kernel) ?_
          exact W.iret (v := (zI ((-14)))) hx hb hr (fun tq ht hW => ⟨_, rfl, by rw [sp_sheet, if_pos ⟨c4, c11, by omega⟩, if_pos (by omega)]; exact ⟨rfl, rfl⟩, ht⟩) (fun q h => by cases h) dX6_sheet_28
      · refine lv_iconst (v := zI (-1)) hx hb dX6_sheet_20 rfl ?_
        exact W.iret (v := (zI ((-1)))) hx hb hr (fun tq ht hW => ⟨_, rfl, by rw [sp_sheet, if_neg (fun z => absurd z.2.2 (by omega))]; exact ⟨rfl, rfl⟩, ht⟩) (fun q h => by cases h) dX6_sheet_21

-- sheet
set_option maxHeartbeats 4000000 in
set_option maxRecDepth 100000 in
theorem c_X6_sheet_ok (l : Launch) (D : va_G) (t : Nat → ClassId) (sz : Nat) (x : Nat) (a : Nat → Nat) (R : Nat) (sa : Nat → Option Nat) (k l0 n : Int) (gk : -2147483648 ≤ k ∧ k < 2147483648) (gl0 : -2147483648 ≤ l0 ∧ l0 < 2147483648) (gn : -2147483648 ≤ n ∧ n < 2147483648) (hk : isK k) (hl0 : isL l0) (hn : 0 ≤ n ∧ n ≤ 64) : Met l yX6_sheet wsX6_sheet ({ frames := 2, cells := 2, slots := 66, locals := 46 }) (va_Pc [.ref x, .int (zI (k)), .int (zI (l0)), .int (zI (n))] (fun U => U.heap.size = sz ∧ va_P D vwCl ([oX x a (((R : Nat) : Int)), aQ t 3 (a 2) 4 (sa)]) U.heap ∧ va_K D vwCl (TY t) U ∧ va_D (fun _ => True) ([oX x a (((R : Nat) : Int)), aQ t 3 (a 2) 4 (sa)]))) (va_Qi (fun r (u : Nat × Nat) => r = zI 1) (fun (u : Nat × Nat) t1 => va_P D vwCl ([oX x a (((R : Nat) : Int)), aQ t 3 (a 2) 4 (va_up sa k.toNat (some (u.1))), (u.1, .inr (4, [.int (zI (l0)), .ref u.2])), aI t u.2 n.toNat (fun _ => 0)]) t1.heap ∧ va_K D vwCl (TY t) t1 ∧ va_D (va_A ([oX x a (((R : Nat) : Int)), aQ t 3 (a 2) 4 (sa)]) sz) ([oX x a (((R : Nat) : Int)), aQ t 3 (a 2) 4 (va_up sa k.toNat (some (u.1))), (u.1, .inr (4, [.int (zI (l0)), .ref u.2])), aI t u.2 n.toNat (fun _ => 0)])) (va_A ([oX x a (((R : Nat) : Int)), aQ t 3 (a 2) 4 (sa)]) sz)) 2 66 (va_A ([oX x a (((R : Nat) : Int)), aQ t 3 (a 2) 4 (sa)]) sz) := by
  refine Met.ofW (cc := cX6_sheet) (maxL := 4) (ret := (some .int)) (by decide) rfl ?_
  intro p e s m args below meth c s₁ B hml hv
  obtain ⟨rfl, hsz, hP, hK, hD0⟩ := hv
  have hx := B.exec
  have hb := B.bytes
  have hr := B.returns
  have hts := atoms_spec (ws := wsX6_sheet) B.pre
  have hown : s.vm.findClass RX6 = some m.cls := findClass_of_methodNamed B.named
  have hlocks := B.notSynchronized
  subst hsz
  have hD := hD0.self (sz := s.heap.size)
  generalize hAe : va_A ([oX x a (((R : Nat) : Int)), aQ t 3 (a 2) 4 (sa)]) s.heap.size = AA at hD ⊢
  have hA : ∀ q : Nat, s.heap.size ≤ q → AA q := fun q h => by rw [← hAe]; exact Or.inr h
  have hS : va_S AA s.heap s.heap [] := va_S.rf
  have hP : va_P D vwCl ([oX x a (((R : Nat) : Int)), aQ t 3 (a 2) 4 (sa)]) s.heap := hP
  have hl := lv_entry ([.ref x, .int (zI (k)), .int (zI (l0)), .int (zI (n))]) (n := 4) (Nat.le_of_ble_eq_true rfl)
  rw [lg_entry_eq]
  generalize (lg_sl ([.ref x, .int (zI (k)), .int (zI (l0)), .int (zI (n))]) ++ List.replicate (4 - (lg_sl ([.ref x, .int (zI (k)), .int (zI (l0)), .int (zI (n))])).length) Slot.unset).toArray = ls at hl ⊢
  have hl : lv_has ls 4 [(0, .ref x), (1, .int (zI (k))), (2, .int (zI (l0))), (3, .int (zI (n)))] := hl
  have iX2 : ∀ w ∈ u_ws RX2 TX2 2, w ∈ wsX6_sheet := by decide +kernel
  have iX6 : ∀ w ∈ u_ws RX6 TX6 7, w ∈ wsX6_sheet := by decide +kernel
  refine lv_iload_n hx hb dX6_sheet_0 rfl (lv_at hl 1 rfl) ?_
  refine vp_callSi (va_runS (As := [.int (zI (k))]) (rest := []) ⟨hx, hb, hml, hown, hts⟩ (c_X6_isSheet l k gk) (va_cwS 1 hts gX6_sheet_X6_isSheet rfl rfl rfl (by decide +kernel) ⟨Nat.le_of_ble_eq_true rfl, Nat.le_of_ble_eq_true rfl⟩) ⟨fun a U g mk q => q, fun U hU hW => ⟨rfl, trivial⟩⟩ rfl rfl hl.1 rfl (lv_room (Nat.le_of_ble_eq_true rfl)) dX6_sheet_1 ⟨Nat.le_of_ble_eq_true rfl, Nat.le_of_ble_eq_true rfl⟩).run (fun r hr1 => ?_)
  obtain rfl := hr1
  refine z_ifb_eq (P := 0 ≤ (k) ∧ (k) ≤ 3) (tgt := 20) hx hb dX6_sheet_4 (by decide) (fun c4 => ?_) (fun c4 => ?_)
  · exact absurd hk c4
  · refine lv_iload_n hx hb dX6_sheet_7 rfl (lv_at hl 2 rfl) ?_
    refine vp_callSi (va_runS (As := [.int (zI (l0))]) (rest := []) ⟨hx, hb, hml, hown, hts⟩ (c_X6_isLane l l0 gl0) (va_cwS 1 hts gX6_sheet_X6_isLane rfl rfl rfl (by decide +kernel) ⟨Nat.le_of_ble_eq_true rfl, Nat.le_of_ble_eq_true rfl⟩) ⟨fun a U g mk q => q, fun U hU hW => ⟨rfl, trivial⟩⟩ rfl rfl hl.1 rfl (lv_room (Nat.le_of_ble_eq_true rfl)) dX6_sheet_8 ⟨Nat.le_of_ble_eq_true rfl, Nat.le_of_ble_eq_true rfl⟩).run (fun r hr8 => ?_)
    obtain rfl := hr8
    refine z_ifb_eq (P := 0 ≤ (l0) ∧ (l0) ≤ 2) (tgt := 20) hx hb dX6_sheet_11 (by decide) (fun c11 => ?_) (fun c11 => ?_)
    · exact absurd hl0 c11
    · refine lv_iload_n hx hb dX6_sheet_14 rfl (lv_at hl 3 rfl) ?_
      refine lv_bipush (v := zI 64) hx hb dX6_sheet_15 (by decide +kernel) ?_
      refine z_icmp_le (tgt := 22) hx hb dX6_sheet_17 (by decide) (by omega) (by omega) (fun c17 => ?_) (fun c17 => ?_)
      · refine lv_iload_n hx hb dX6_sheet_22 rfl (lv_at hl 3 rfl) ?_
        refine z_if_ge (tgt := 29) hx hb dX6_sheet_23 (by decide) (by omega) (fun c23 => ?_) (fun c23 => ?_)
        · refine lv_aload_n hx hb dX6_sheet_29 rfl (lv_at hl 0 rfl) ?_
          refine va_get (D := D) (ci := 5) (v := .ref (a 2)) (C := RX6) (T := TX6) (N := 7) hx hb hts iX6 hown hK hP 0 rfl rfl 2 (by decide) (hts (.fieldLink RX6 19 "CancelRows" "sheets" "[LCancelRows$Sheet;") (by decide +kernel)) (fun _ h9 => h9) rfl dX6_sheet_30 ?_
          refine lv_iload_n hx hb dX6_sheet_33 rfl (lv_at hl 1 rfl) ?_
          refine va_new (ci := 4) (fs := [.int (zI (0)), .null]) (C := RX2) (T := TX2) (N := 2) hx hb hts iX2 tyX2 tyX2_ok hown (hts (.classLink RX6 17 RX2) (by decide +kernel)) (hts (.instantiable RX2 2) (by decide +kernel)) (hts (.initialized RX2) (by decide +kernel)) hK hP hD hS hA rfl (fun j hj => by rcases (show j = 0 ∨ j = 1 by omega) with rfl | rfl <;> rfl) (Nat.le_of_ble_eq_true rfl) (Nat.le_of_ble_eq_true rfl) dX6_sheet_34 (fun q34 H hP hD hS => ?_)
          have hP : va_P D vwCl [oX x a (((R : Nat) : Int)), aQ t 3 (a 2) 4 (sa), (q34, .inr (4, [.int (zI (0)), .null]))] H := hP
          have hD : va_D AA [oX x a (((R : Nat) : Int)), aQ t 3 (a 2) 4 (sa), (q34, .inr (4, [.int (zI (0)), .null]))] := hD
          refine W.widen (k := 1) (n := 2) (by omega) (by omega) ?_
          refine lv_dup hx hb dX6_sheet_37 rfl ?_
          refine lv_iload_n hx hb dX6_sheet_38 rfl (lv_at hl 2 rfl) ?_
          refine lv_iload_n hx hb dX6_sheet_39 rfl (lv_at hl 3 rfl) ?_
          have hPc := hP.sub (ws' := [(q34, .inr (4, [.int (zI (0)), .null]))]) [2] rfl
          have hDc := hD.sub (ws' := [(q34, .inr (4, [.int (zI (0)), .null]))]) [2] (by decide) rfl
          have hFc := va_free (wc := [(q34, .inr (4, [.int (zI (0)), .null]))]) hD hS hA [2] rfl
          refine va_callv (va_runI (As := [.int (zI (l0)), .int (zI (n))]) (rest := [.ref q34, .int (zI (k)), .ref (a 2)]) ⟨hx, hb, hml, hown, hts⟩ (c_X2_init l D t H.size q34 l0 n gl0 hn) (cwI 2 hts gX6_sheet_X2_init rfl rfl rfl (hts (.initialized RX2) (by decide +kernel)) (hts (.methodLink RX6 67 yX2_init) (by decide +kernel)) (hts (.instanceMethod yX2_init) (by decide +kernel)) rfl (by decide +kernel) ⟨Nat.le_of_ble_eq_true rfl, Nat.le_of_ble_eq_true rfl⟩) ⟨fun a U g mk q => by obtain ⟨q0, q1, qP, qK, qD⟩ := q; exact ⟨q0, q1, qP, va_K.moved (u := U) (U := U.calling g mk a) (Vm.Alike.refl U.vm) qK, qD⟩, fun U hU hW => ⟨rfl, by rw [hU], by rw [hU]; exact hPc, va_K.moved hW.alike hK, hDc.weaken (fun _ _ _ _ => trivial)⟩⟩ rfl rfl hl.1 rfl (lv_room (Nat.le_of_ble_eq_true rfl)) dX6_sheet_40 ⟨Nat.le_of_ble_eq_true rfl, Nat.le_of_ble_eq_true rfl⟩) hS (fun q _ h => hFc q h) hFc (fun u tq H1 locs ht hvm hr40 hB hz1 hk1 hS => ?_)
          obtain ⟨r40, rfl⟩ : ∃ z, z = u := ⟨_, rfl⟩
          obtain ⟨hP1, hK1, hD1⟩ := hB
          rw [ht] at hP1
          obtain ⟨hP, hD⟩ := va_join (wr := [oX x a (((R : Nat) : Int)), aQ t 3 (a 2) 4 (sa)]) (w1 := [(q34, .inr (4, [.int (zI (l0)), .ref r40])), aI t r40 n.toNat (fun _ => 0)]) hP hD [2] [0, 1] rfl rfl (by decide) (by decide) hk1 hFc hP1 hD1
          generalize H1 = H at hP hS ⊢
          have hP : va_P D vwCl [oX x a (((R : Nat) : Int)), aQ t 3 (a 2) 4 (sa), (q34, .inr (4, [.int (zI (l0)), .ref r40])), aI t r40 n.toNat (fun _ => 0)] H := hP
          have hD : va_D AA [oX x a (((R : Nat) : Int)), aQ t 3 (a 2) 4 (sa), (q34, .inr (4, [.int (zI (l0)), .ref r40])), aI t r40 n.toNat (fun _ => 0)] := hD
          try dsimp only at hr40
          refine q_aast hx hb hK hP hD hS 1 3 2 4 rfl rfl rfl rfl (k.toNat) (by omega) (by omega) (by omega) dX6_sheet_43 (fun H locs hP hD hS => ?_)
          have hP : va_P D vwCl [oX x a (((R : Nat) : Int)), aQ t 3 (a 2) 4 (va_up (sa) (k.toNat) (some (q34))), (q34, .inr (4, [.int (zI (l0)), .ref r40])), aI t r40 n.toNat (fun _ => 0)] H := hP
          have hD : va_D AA [oX x a (((R : Nat) : Int)), aQ t 3 (a 2) 4 (va_up (sa) (k.toNat) (some (q34))), (q34, .inr (4, [.int (zI (l0)), .ref r40])), aI t r40 n.toNat (fun _ => 0)] := hD
          refine lv_iconst (v := zI 1) hx hb dX6_sheet_44 rfl ?_
          have hP := hP.sub (ws' := [oX x a (((R : Nat) : Int)), aQ t 3 (a 2) 4 (va_up sa k.toNat (some (q34))), (q34, .inr (4, [.int (zI (l0)), .ref r40])), aI t r40 n.toNat (fun _ => 0)]) [0, 1, 2, 3] rfl
          have hD := hD.sub (ws' := [oX x a (((R : Nat) : Int)), aQ t 3 (a 2) 4 (va_up sa k.toNat (some (q34))), (q34, .inr (4, [.int (zI (l0)), .ref r40])), aI t r40 n.toNat (fun _ => 0)]) [0, 1, 2, 3] (by decide) rfl
          exact W.iret (v := (zI (1))) hx hb hr (fun tq ht hW => ⟨⟨_, (q34, r40), rfl, rfl, by rw [ht]; exact hP, va_K.moved hW.alike hK, hD⟩, hS.F ht⟩) hS.2.2 dX6_sheet_45
        · exact absurd c23 (by omega)
      · exact absurd c17 (by omega)

-- lay, no sheet
set_option maxHeartbeats 4000000 in
set_option maxRecDepth 100000 in
theorem c_X6_lay_bad (l : Launch) (x : Nat) (k i v : Int) (gk : -2147483648 ≤ k ∧ k < 2147483648) (hk : ¬ isK k) : Met l yX6_lay wsX6_lay ({ frames := 2, cells := 0, slots := 0, locals := 42 }) (va_Pc [.ref x, .int (zI (k)), .int (zI (i)), .int (zI (v))] (fun _ => True)) (vp_Si (fun r => r = zI (-1))) 0 0 (fun _ => False) := by
  refine Met.ofW (cc := cX6_lay) (maxL := 5) (ret := (some .int)) (by decide) rfl ?_
  intro p e s m args below meth c s₁ B hml hv
  obtain ⟨rfl, -⟩ := hv
  have hx := B.exec
  have hb := B.bytes
  have hr := B.returns
  have hts := atoms_spec (ws := wsX6_lay) B.pre
  have hown : s.vm.findClass RX6 = some m.cls := findClass_of_methodNamed B.named
  have hlocks := B.notSynchronized
  have hl := lv_entry ([.ref x, .int (zI (k)), .int (zI (i)), .int (zI (v))]) (n := 5) (Nat.le_of_ble_eq_true rfl)
  rw [lg_entry_eq]
  generalize (lg_sl ([.ref x, .int (zI (k)), .int (zI (i)), .int (zI (v))]) ++ List.replicate (5 - (lg_sl ([.ref x, .int (zI (k)), .int (zI (i)), .int (zI (v))])).length) Slot.unset).toArray = ls at hl ⊢
  have hl : lv_has ls 5 [(0, .ref x), (1, .int (zI (k))), (2, .int (zI (i))), (3, .int (zI (v)))] := hl
  refine lv_iload_n hx hb dX6_lay_0 rfl (lv_at hl 1 rfl) ?_
  refine vp_callSi (va_runS (As := [.int (zI (k))]) (rest := []) ⟨hx, hb, hml, hown, hts⟩ (c_X6_isSheet l k gk) (va_cwS 1 hts gX6_lay_X6_isSheet rfl rfl rfl (by decide +kernel) ⟨Nat.le_of_ble_eq_true rfl, Nat.le_of_ble_eq_true rfl⟩) ⟨fun a U g mk q => q, fun U hU hW => ⟨rfl, trivial⟩⟩ rfl rfl hl.1 rfl (lv_room (Nat.le_of_ble_eq_true rfl)) dX6_lay_1 ⟨Nat.le_of_ble_eq_true rfl, Nat.le_of_ble_eq_true rfl⟩).run (fun r hr1 => ?_)
  obtain rfl := hr1
  refine z_ifb_ne (P := 0 ≤ (k) ∧ (k) ≤ 3) (tgt := 9) hx hb dX6_lay_4 (by decide) (fun c4 => ?_) (fun c4 => ?_)
  · exact absurd c4 hk
  · refine lv_iconst (v := zI (-1)) hx hb dX6_lay_7 rfl ?_
    exact W.iret (v := (zI ((-1)))) hx hb hr (fun tq ht hW => ⟨_, rfl, rfl, ht⟩) (fun q h => by cases h) dX6_lay_8

-- lay, nothing
set_option maxHeartbeats 4000000 in
set_option maxRecDepth 100000 in
theorem c_X6_lay_none (l : Launch) (D : va_G) (t : Nat → ClassId) (x : Nat) (a : Nat → Nat) (R : Nat) (sa : Nat → Option Nat) (k i v : Int) (gk : -2147483648 ≤ k ∧ k < 2147483648) (hk : isK k) (hs : sa k.toNat = none) : Met l yX6_lay wsX6_lay ({ frames := 2, cells := 0, slots := 0, locals := 42 }) (va_Pc [.ref x, .int (zI (k)), .int (zI (i)), .int (zI (v))] (fun U => va_P D vwCl ([oX x a (((R : Nat) : Int)), aQ t 3 (a 2) 4 (sa)]) U.heap ∧ va_K D vwCl (TY t) U)) (vp_Si (fun r => r = zI (-11))) 0 0 (fun _ => False) := by
  refine Met.ofW (cc := cX6_lay) (maxL := 5) (ret := (some .int)) (by decide) rfl ?_
  intro p e s m args below meth c s₁ B hml hv
  obtain ⟨rfl, hP, hK⟩ := hv
  have hx := B.exec
  have hb := B.bytes
  have hr := B.returns
  have hts := atoms_spec (ws := wsX6_lay) B.pre
  have hown : s.vm.findClass RX6 = some m.cls := findClass_of_methodNamed B.named
  have hlocks := B.notSynchronized
  have hl := lv_entry ([.ref x, .int (zI (k)), .int (zI (i)), .int (zI (v))]) (n := 5) (Nat.le_of_ble_eq_true rfl)
  rw [lg_entry_eq]
  generalize (lg_sl ([.ref x, .int (zI (k)), .int (zI (i)), .int (zI (v))]) ++ List.replicate (5 - (lg_sl ([.ref x, .int (zI (k)), .int (zI (i)), .int (zI (v))])).length) Slot.unset).toArray = ls at hl ⊢
  have hl : lv_has ls 5 [(0, .ref x), (1, .int (zI (k))), (2, .int (zI (i))), (3, .int (zI (v)))] := hl
  have iX6 : ∀ w ∈ u_ws RX6 TX6 7, w ∈ wsX6_lay := by decide +kernel
  refine lv_iload_n hx hb dX6_lay_0 rfl (lv_at hl 1 rfl) ?_
  refine vp_callSi (va_runS (As := [.int (zI (k))]) (rest := []) ⟨hx, hb, hml, hown, hts⟩ (c_X6_isSheet l k gk) (va_cwS 1 hts gX6_lay_X6_isSheet rfl rfl rfl (by decide +kernel) ⟨Nat.le_of_ble_eq_true rfl, Nat.le_of_ble_eq_true rfl⟩) ⟨fun a U g mk q => q, fun U hU hW => ⟨rfl, trivial⟩⟩ rfl rfl hl.1 rfl (lv_room (Nat.le_of_ble_eq_true rfl)) dX6_lay_1 ⟨Nat.le_of_ble_eq_true rfl, Nat.le_of_ble_eq_true rfl⟩).run (fun r hr1 => ?_)
  obtain rfl := hr1
  refine z_ifb_ne (P := 0 ≤ (k) ∧ (k) ≤ 3) (tgt := 9) hx hb dX6_lay_4 (by decide) (fun c4 => ?_) (fun c4 => ?_)
  · refine lv_aload_n hx hb dX6_lay_9 rfl (lv_at hl 0 rfl) ?_
    refine va_get (D := D) (ci := 5) (v := .ref (a 2)) (C := RX6) (T := TX6) (N := 7) hx hb hts iX6 hown hK hP 0 rfl rfl 2 (by decide) (hts (.fieldLink RX6 19 "CancelRows" "sheets" "[LCancelRows$Sheet;") (by decide +kernel)) (fun _ h9 => h9) rfl dX6_lay_10 ?_
    refine lv_iload_n hx hb dX6_lay_13 rfl (lv_at hl 1 rfl) ?_
    refine q_aald hx hb hK hP 1 3 rfl rfl (k.toNat) (by omega) (by omega) (by omega) dX6_lay_14 ?_
    refine q_none (hs) ?_
    refine lv_astoreN (lv' := [(4, .null), (0, .ref x), (1, .int (zI (k))), (2, .int (zI (i))), (3, .int (zI (v)))]) hx hb dX6_lay_15 hl (by decide) rfl (fun ls hl => ?_)
    refine lv_aloadN hx hb dX6_lay_17 (lv_at hl 0 rfl) ?_
    refine lv_ifnonnullN hx hb dX6_lay_19 ?_
    refine lv_bipush (v := zI (-11)) hx hb dX6_lay_22 (by decide +kernel) ?_
    exact W.iret (v := (zI ((-11)))) hx hb hr (fun tq ht hW => ⟨_, rfl, rfl, ht⟩) (fun q h => by cases h) dX6_lay_24
  · exact absurd hk c4

-- lay
set_option maxHeartbeats 4000000 in
set_option maxRecDepth 100000 in
theorem c_X6_lay_some (l : Launch) (D : va_G) (t : Nat → ClassId) (sz : Nat) (x : Nat) (a : Nat → Nat) (R : Nat) (sa : Nat → Option Nat) (q r0 n : Nat) (la : Int) (C : Nat → Int) (gn : n ≤ 64) (gl : la = 0 ∨ la = 1 ∨ la = 2) (k i v : Int) (gk : -2147483648 ≤ k ∧ k < 2147483648) (gi : -2147483648 ≤ i ∧ i < 2147483648) (hk : isK k) (hs : sa k.toNat = some q) : Met l yX6_lay wsX6_lay ({ frames := 2, cells := 0, slots := 0, locals := 43 }) (va_Pc [.ref x, .int (zI (k)), .int (zI (i)), .int (zI (v))] (fun U => U.heap.size = sz ∧ va_P D vwCl ([oX x a (((R : Nat) : Int)), aQ t 3 (a 2) 4 (sa), (q, .inr (4, [.int (zI (la)), .ref r0])), aI t r0 n (C)]) U.heap ∧ va_K D vwCl (TY t) U ∧ va_D (fun _ => True) ([oX x a (((R : Nat) : Int)), aQ t 3 (a 2) 4 (sa), (q, .inr (4, [.int (zI (la)), .ref r0])), aI t r0 n (C)]))) (va_Qi (fun r (u : Nat → Int) => (r = zI 1 ∧ (0 ≤ i ∧ i < (n : Int)) ∧ u = va_up C i.toNat (cutI la v)) ∨ (r = zI (-12) ∧ ¬ (0 ≤ i ∧ i < (n : Int)) ∧ u = C)) (fun (u : Nat → Int) t1 => va_P D vwCl ([oX x a (((R : Nat) : Int)), aQ t 3 (a 2) 4 (sa), (q, .inr (4, [.int (zI (la)), .ref r0])), aI t r0 n (u)]) t1.heap ∧ va_K D vwCl (TY t) t1 ∧ va_D (va_A ([oX x a (((R : Nat) : Int)), aQ t 3 (a 2) 4 (sa), (q, .inr (4, [.int (zI (la)), .ref r0])), aI t r0 n (C)]) sz) ([oX x a (((R : Nat) : Int)), aQ t 3 (a 2) 4 (sa), (q, .inr (4, [.int (zI (la)), .ref r0])), aI t r0 n (u)])) (va_A ([oX x a (((R : Nat) : Int)), aQ t 3 (a 2) 4 (sa), (q, .inr (4, [.int (zI (la)), .ref r0])), aI t r0 n (C)]) sz)) 0 0 (va_A ([oX x a (((R : Nat) : Int)), aQ t 3 (a 2) 4 (sa), (q, .inr (4, [.int (zI (la)), .ref r0])), aI t r0 n (C)]) sz) := by
  refine Met.ofW (cc := cX6_lay) (maxL := 5) (ret := (some .int)) (by decide) rfl ?_
  intro p e s m args below meth c s₁ B hml hv
  obtain ⟨rfl, hsz, hP, hK, hD0⟩ := hv
  have hx := B.exec
  have hb := B.bytes
  have hr := B.returns
  have hts := atoms_spec (ws := wsX6_lay) B.pre
  have hown : s.vm.findClass RX6 = some m.cls := findClass_of_methodNamed B.named
  have hlocks := B.notSynchronized
  subst hsz
  have hD := hD0.self (sz := s.heap.size)
  generalize hAe : va_A ([oX x a (((R : Nat) : Int)), aQ t 3 (a 2) 4 (sa), (q, .inr (4, [.int (zI (la)), .ref r0])), aI t r0 n (C)]) s.heap.size = AA at hD ⊢
  have hA : ∀ q : Nat, s.heap.size ≤ q → AA q := fun q h => by rw [← hAe]; exact Or.inr h
  have hS : va_S AA s.heap s.heap [] := va_S.rf
  have hP : va_P D vwCl ([oX x a (((R : Nat) : Int)), aQ t 3 (a 2) 4 (sa), (q, .inr (4, [.int (zI (la)), .ref r0])), aI t r0 n (C)]) s.heap := hP
  have hl := lv_entry ([.ref x, .int (zI (k)), .int (zI (i)), .int (zI (v))]) (n := 5) (Nat.le_of_ble_eq_true rfl)
  rw [lg_entry_eq]
  generalize (lg_sl ([.ref x, .int (zI (k)), .int (zI (i)), .int (zI (v))]) ++ List.replicate (5 - (lg_sl ([.ref x, .int (zI (k)), .int (zI (i)), .int (zI (v))])).length) Slot.unset).toArray = ls at hl ⊢
  have hl : lv_has ls 5 [(0, .ref x), (1, .int (zI (k))), (2, .int (zI (i))), (3, .int (zI (v)))] := hl
  have iX6 : ∀ w ∈ u_ws RX6 TX6 7, w ∈ wsX6_lay := by decide +kernel
  refine lv_iload_n hx hb dX6_lay_0 rfl (lv_at hl 1 rfl) ?_
  refine vp_callSi (va_runS (As := [.int (zI (k))]) (rest := []) ⟨hx, hb, hml, hown, hts⟩ (c_X6_isSheet l k gk) (va_cwS 1 hts gX6_lay_X6_isSheet rfl rfl rfl (by decide +kernel) ⟨Nat.le_of_ble_eq_true rfl, Nat.le_of_ble_eq_true rfl⟩) ⟨fun a U g mk q => q, fun U hU hW => ⟨rfl, trivial⟩⟩ rfl rfl hl.1 rfl (lv_room (Nat.le_of_ble_eq_true rfl)) dX6_lay_1 ⟨Nat.le_of_ble_eq_true rfl, Nat.le_of_ble_eq_true rfl⟩).run (fun r hr1 => ?_)
  obtain rfl := hr1
  refine z_ifb_ne (P := 0 ≤ (k) ∧ (k) ≤ 3) (tgt := 9) hx hb dX6_lay_4 (by decide) (fun c4 => ?_) (fun c4 => ?_)
  · refine lv_aload_n hx hb dX6_lay_9 rfl (lv_at hl 0 rfl) ?_
    refine va_get (D := D) (ci := 5) (v := .ref (a 2)) (C := RX6) (T := TX6) (N := 7) hx hb hts iX6 hown hK hP 0 rfl rfl 2 (by decide) (hts (.fieldLink RX6 19 "CancelRows" "sheets" "[LCancelRows$Sheet;") (by decide +kernel)) (fun _ h9 => h9) rfl dX6_lay_10 ?_
    refine lv_iload_n hx hb dX6_lay_13 rfl (lv_at hl 1 rfl) ?_
    refine q_aald hx hb hK hP 1 3 rfl rfl (k.toNat) (by omega) (by omega) (by omega) dX6_lay_14 ?_
    refine q_some (x := q) (hs) ?_
    refine lv_astore (lv' := [(4, .ref q), (0, .ref x), (1, .int (zI (k))), (2, .int (zI (i))), (3, .int (zI (v)))]) hx hb dX6_lay_15 hl (by decide) rfl (fun ls hl => ?_)
    refine lv_aload hx hb dX6_lay_17 (lv_at hl 0 rfl) ?_
    refine lv_ifnonnull (tgt := 25) hx hb dX6_lay_19 (by decide) ?_
    refine lv_aload hx hb dX6_lay_25 (lv_at hl 0 rfl) ?_
    refine lv_iload_n hx hb dX6_lay_27 rfl (lv_at hl 3 rfl) ?_
    have hPc := hP.sub (ws' := [(q, .inr (4, [.int (zI (la)), .ref r0])), aI t r0 n (C)]) [2, 3] rfl
    refine vp_callSi (va_runV (As := [.int (zI (i))]) (rest := []) ⟨hx, hb, hml, hown, hts⟩ (c_X2_has l D t q r0 n la C gn (i) gi) (cwV 1 hts gX6_lay_X2_has rfl rfl rfl (by decide +kernel) ⟨Nat.le_of_ble_eq_true rfl, Nat.le_of_ble_eq_true rfl⟩) ⟨fun a U g mk q => ⟨q.1, q.2.1, va_K.moved (u := U) (U := U.calling g mk a) (Vm.Alike.refl U.vm) q.2.2⟩, va_recv hK hPc (ci := 4) (q0 := 0) rfl rfl, fun U hU hW => ⟨rfl, by rw [hU]; exact hPc, va_K.moved hW.alike hK⟩⟩ rfl rfl hl.1 rfl (lv_room (Nat.le_of_ble_eq_true rfl)) dX6_lay_28 ⟨Nat.le_of_ble_eq_true rfl, Nat.le_of_ble_eq_true rfl⟩).run (fun r hr28 => ?_)
    obtain rfl := hr28
    refine z_ifb_ne (P := 0 ≤ (i) ∧ (i) < (n : Int)) (tgt := 37) hx hb dX6_lay_31 (by decide) (fun c31 => ?_) (fun c31 => ?_)
    · refine lv_aload hx hb dX6_lay_37 (lv_at hl 0 rfl) ?_
      refine lv_iload_n hx hb dX6_lay_39 rfl (lv_at hl 3 rfl) ?_
      refine lv_iload_n hx hb dX6_lay_40 rfl (lv_at hl 4 rfl) ?_
      have hPc := hP.sub (ws' := [(q, .inr (4, [.int (zI (la)), .ref r0])), aI t r0 n (C)]) [2, 3] rfl
      have hDc := hD.sub (ws' := [(q, .inr (4, [.int (zI (la)), .ref r0])), aI t r0 n (C)]) [2, 3] (by decide) rfl
      have hFc := va_free (wc := [(q, .inr (4, [.int (zI (la)), .ref r0])), aI t r0 n (C)]) hD hS hA [2, 3] rfl
      refine va_callv (va_runV (As := [.int (zI (i)), .int (zI (v))]) (rest := []) ⟨hx, hb, hml, hown, hts⟩ (c_X2_write l D t s.heap.size q r0 n la C gn gl i v gi c31) (cwV 2 hts gX6_lay_X2_write rfl rfl rfl (by decide +kernel) ⟨Nat.le_of_ble_eq_true rfl, Nat.le_of_ble_eq_true rfl⟩) ⟨fun a U g mk q => by obtain ⟨q0, q1, qP, qK, qD⟩ := q; exact ⟨q0, q1, qP, va_K.moved (u := U) (U := U.calling g mk a) (Vm.Alike.refl U.vm) qK, qD⟩, va_recv hK hPc (ci := 4) (q0 := 0) rfl rfl, fun U hU hW => ⟨rfl, by rw [hU], by rw [hU]; exact hPc, va_K.moved hW.alike hK, hDc.weaken (fun _ _ _ _ => trivial)⟩⟩ rfl rfl hl.1 rfl (lv_room (Nat.le_of_ble_eq_true rfl)) dX6_lay_41 ⟨Nat.le_of_ble_eq_true rfl, Nat.le_of_ble_eq_true rfl⟩) hS (fun q _ h => hFc q h) hFc (fun u tq H1 locs ht hvm hr41 hB hz1 hk1 hS => ?_)
      obtain ⟨hP1, hK1, hD1⟩ := hB
      rw [ht] at hP1
      obtain ⟨hP, hD⟩ := va_join (wr := [oX x a (((R : Nat) : Int)), aQ t 3 (a 2) 4 (sa)]) (w1 := [(q, .inr (4, [.int (zI (la)), .ref r0])), aI t r0 n (va_up C i.toNat (cutI la v))]) hP hD [2, 3] [0, 1] rfl rfl (by decide) (by decide) hk1 hFc hP1 hD1
      generalize H1 = H at hP hS ⊢
      have hP : va_P D vwCl [oX x a (((R : Nat) : Int)), aQ t 3 (a 2) 4 (sa), (q, .inr (4, [.int (zI (la)), .ref r0])), aI t r0 n (va_up C i.toNat (cutI la v))] H := hP
      have hD : va_D AA [oX x a (((R : Nat) : Int)), aQ t 3 (a 2) 4 (sa), (q, .inr (4, [.int (zI (la)), .ref r0])), aI t r0 n (va_up C i.toNat (cutI la v))] := hD
      try dsimp only at hr41
      refine lv_iconst (v := zI 1) hx hb dX6_lay_44 rfl ?_
      exact W.iret (v := (zI (1))) hx hb hr (fun tq ht hW => ⟨⟨_, (va_up C i.toNat (cutI la v)), rfl, Or.inl ⟨rfl, c31, rfl⟩, by rw [ht]; exact hP, va_K.moved hW.alike hK, hD⟩, hS.F ht⟩) hS.2.2 dX6_lay_45
    · refine lv_bipush (v := zI (-12)) hx hb dX6_lay_34 (by decide +kernel) ?_
      exact W.iret (v := (zI ((-12)))) hx hb hr (fun tq ht hW => ⟨⟨_, (C), rfl, Or.inr ⟨rfl, c31, rfl⟩, by rw [ht]; exact hP, va_K.moved hW.alike hK, hD⟩, hS.F ht⟩) hS.2.2 dX6_lay_36
  · exact absurd hk c4

-- draw, refused
set_option maxHeartbeats 4000000 in
set_option maxRecDepth 100000 in
theorem c_X6_draw_bad (l : Launch) (x : Nat) (k l0 f n0 : Int) (gk : -2147483648 ≤ k ∧ k < 2147483648) (gl0 : -2147483648 ≤ l0 ∧ l0 < 2147483648) (gn0 : -2147483648 ≤ n0 ∧ n0 < 2147483648) (hb0 : ¬ (isK k ∧ isL l0 ∧ 1 ≤ n0 ∧ n0 ≤ 32)) : Met l yX6_draw wsX6_draw ({ frames := 2, cells := 0, slots := 0, locals := 42 }) (va_Pc [.ref x, .int (zI (k)), .int (zI (l0)), .int (zI (f)), .int (zI (n0))] (fun _ => True)) (vp_Si (fun r => r = zI (-1))) 0 0 (fun _ => False) := by
  refine Met.ofW (cc := cX6_draw) (maxL := 10) (ret := (some .int)) (by decide) rfl ?_
  intro p e s m args below meth c s₁ B hml hv
  obtain ⟨rfl, -⟩ := hv
  have hx := B.exec
  have hb := B.bytes
  have hr := B.returns
  have hts := atoms_spec (ws := wsX6_draw) B.pre
  have hown : s.vm.findClass RX6 = some m.cls := findClass_of_methodNamed B.named
  have hlocks := B.notSynchronized
  have hl := lv_entry ([.ref x, .int (zI (k)), .int (zI (l0)), .int (zI (f)), .int (zI (n0))]) (n := 10) (Nat.le_of_ble_eq_true rfl)
  rw [lg_entry_eq]
  generalize (lg_sl ([.ref x, .int (zI (k)), .int (zI (l0)), .int (zI (f)), .int (zI (n0))]) ++ List.replicate (10 - (lg_sl ([.ref x, .int (zI (k)), .int (zI (l0)), .int (zI (f)), .int (zI (n0))])).length) Slot.unset).toArray = ls at hl ⊢
  have hl : lv_has ls 10 [(0, .ref x), (1, .int (zI (k))), (2, .int (zI (l0))), (3, .int (zI (f))), (4, .int (zI (n0)))] := hl
  refine lv_iload_n hx hb dX6_draw_0 rfl (lv_at hl 1 rfl) ?_
  refine vp_callSi (va_runS (As := [.int (zI (k))]) (rest := []) ⟨hx, hb, hml, hown, hts⟩ (c_X6_isSheet l k gk) (va_cwS 1 hts gX6_draw_X6_isSheet rfl rfl rfl (by decide +kernel) ⟨Nat.le_of_ble_eq_true rfl, Nat.le_of_ble_eq_true rfl⟩) ⟨fun a U g mk q => q, fun U hU hW => ⟨rfl, trivial⟩⟩ rfl rfl hl.1 rfl (lv_room (Nat.le_of_ble_eq_true rfl)) dX6_draw_1 ⟨Nat.le_of_ble_eq_true rfl, Nat.le_of_ble_eq_true rfl⟩).run (fun r hr1 => ?_)
  obtain rfl := hr1
  refine z_ifb_eq (P := 0 ≤ (k) ∧ (k) ≤ 3) (tgt := 25) hx hb dX6_draw_4 (by decide) (fun c4 => ?_) (fun c4 => ?_)
  · refine lv_iconst (v := zI (-1)) hx hb dX6_draw_25 rfl ?_
    exact W.iret (v := (zI ((-1)))) hx hb hr (fun tq ht hW => ⟨_, rfl, rfl, ht⟩) (fun q h => by cases h) dX6_draw_26
  · refine lv_iload_n hx hb dX6_draw_7 rfl (lv_at hl 2 rfl) ?_
    refine vp_callSi (va_runS (As := [.int (zI (l0))]) (rest := []) ⟨hx, hb, hml, hown, hts⟩ (c_X6_isLane l l0 gl0) (va_cwS 1 hts gX6_draw_X6_isLane rfl rfl rfl (by decide +kernel) ⟨Nat.le_of_ble_eq_true rfl, Nat.le_of_ble_eq_true rfl⟩) ⟨fun a U g mk q => q, fun U hU hW => ⟨rfl, trivial⟩⟩ rfl rfl hl.1 rfl (lv_room (Nat.le_of_ble_eq_true rfl)) dX6_draw_8 ⟨Nat.le_of_ble_eq_true rfl, Nat.le_of_ble_eq_true rfl⟩).run (fun r hr8 => ?_)
    obtain rfl := hr8
    refine z_ifb_eq (P := 0 ≤ (l0) ∧ (l0) ≤ 2) (tgt := 25) hx hb dX6_draw_11 (by decide) (fun c11 => ?_) (fun c11 => ?_)
    · refine lv_iconst (v := zI (-1)) hx hb dX6_draw_25 rfl ?_
      exact W.iret (v := (zI ((-1)))) hx hb hr (fun tq ht hW => ⟨_, rfl, rfl, ht⟩) (fun q h => by cases h) dX6_draw_26
    · refine lv_iload hx hb dX6_draw_14 (lv_at hl 4 rfl) ?_
      refine lv_iconst (v := zI 1) hx hb dX6_draw_16 rfl ?_
      refine lv_bipush (v := zI 32) hx hb dX6_draw_17 (by decide +kernel) ?_
      refine vp_callSi (va_runS (As := [.int (zI (n0)), .int (zI (1)), .int (zI (32))]) (rest := []) ⟨hx, hb, hml, hown, hts⟩ (c_X6_within l n0 1 32 gn0 (by omega) (by omega)) (va_cwS 3 hts gX6_draw_X6_within rfl rfl rfl (by decide +kernel) ⟨Nat.le_of_ble_eq_true rfl, Nat.le_of_ble_eq_true rfl⟩) ⟨fun a U g mk q => q, fun U hU hW => ⟨rfl, trivial⟩⟩ rfl rfl hl.1 rfl (lv_room (Nat.le_of_ble_eq_true rfl)) dX6_draw_19 ⟨Nat.le_of_ble_eq_true rfl, Nat.le_of_ble_eq_true rfl⟩).run (fun r hr19 => ?_)
      obtain rfl := hr19
      refine z_ifb_ne (P := (1) ≤ (n0) ∧ (n0) ≤ (32)) (tgt := 27) hx hb dX6_draw_22 (by decide) (fun c22 => ?_) (fun c22 => ?_)
      · exact absurd ⟨c4, c11, c22⟩ hb0
      · refine lv_iconst (v := zI (-1)) hx hb dX6_draw_25 rfl ?_
        exact W.iret (v := (zI ((-1)))) hx hb hr (fun tq ht hW => ⟨_, rfl, rfl, ht⟩) (fun q h => by cases h) dX6_draw_26

-- draw, nothing
set_option maxHeartbeats 4000000 in
set_option maxRecDepth 100000 in
theorem c_X6_draw_none (l : Launch) (D : va_G) (t : Nat → ClassId) (x : Nat) (a : Nat → Nat) (R : Nat) (sa : Nat → Option Nat) (k l0 f n0 : Int) (gk : -2147483648 ≤ k ∧ k < 2147483648) (gl0 : -2147483648 ≤ l0 ∧ l0 < 2147483648) (gn0 : -2147483648 ≤ n0 ∧ n0 < 2147483648) (hg : isK k ∧ isL l0 ∧ 1 ≤ n0 ∧ n0 ≤ 32) (hs : sa k.toNat = none) : Met l yX6_draw wsX6_draw ({ frames := 2, cells := 0, slots := 0, locals := 42 }) (va_Pc [.ref x, .int (zI (k)), .int (zI (l0)), .int (zI (f)), .int (zI (n0))] (fun U => va_P D vwCl ([oX x a (((R : Nat) : Int)), aQ t 3 (a 2) 4 (sa)]) U.heap ∧ va_K D vwCl (TY t) U)) (vp_Si (fun r => r = zI (-11))) 0 0 (fun _ => False) := by
  refine Met.ofW (cc := cX6_draw) (maxL := 10) (ret := (some .int)) (by decide) rfl ?_
  intro p e s m args below meth c s₁ B hml hv
  obtain ⟨rfl, hP, hK⟩ := hv
  have hx := B.exec
  have hb := B.bytes
  have hr := B.returns
  have hts := atoms_spec (ws := wsX6_draw) B.pre
  have hown : s.vm.findClass RX6 = some m.cls := findClass_of_methodNamed B.named
  have hlocks := B.notSynchronized
  have hl := lv_entry ([.ref x, .int (zI (k)), .int (zI (l0)), .int (zI (f)), .int (zI (n0))]) (n := 10) (Nat.le_of_ble_eq_true rfl)
  rw [lg_entry_eq]
  generalize (lg_sl ([.ref x, .int (zI (k)), .int (zI (l0)), .int (zI (f)), .int (zI (n0))]) ++ List.replicate (10 - (lg_sl ([.ref x, .int (zI (k)), .int (zI (l0)), .int (zI (f)), .int (zI (n0))])).length) Slot.unset).toArray = ls at hl ⊢
  have hl : lv_has ls 10 [(0, .ref x), (1, .int (zI (k))), (2, .int (zI (l0))), (3, .int (zI (f))), (4, .int (zI (n0)))] := hl
  have iX6 : ∀ w ∈ u_ws RX6 TX6 7, w ∈ wsX6_draw := by decide +kernel
  refine lv_iload_n hx hb dX6_draw_0 rfl (lv_at hl 1 rfl) ?_
  refine vp_callSi (va_runS (As := [.int (zI (k))]) (rest := []) ⟨hx, hb, hml, hown, hts⟩ (c_X6_isSheet l k gk) (va_cwS 1 hts gX6_draw_X6_isSheet rfl rfl rfl (by decide +kernel) ⟨Nat.le_of_ble_eq_true rfl, Nat.le_of_ble_eq_true rfl⟩) ⟨fun a U g mk q => q, fun U hU hW => ⟨rfl, trivial⟩⟩ rfl rfl hl.1 rfl (lv_room (Nat.le_of_ble_eq_true rfl)) dX6_draw_1 ⟨Nat.le_of_ble_eq_true rfl, Nat.le_of_ble_eq_true rfl⟩).run (fun r hr1 => ?_)
  obtain rfl := hr1
  refine z_ifb_eq (P := 0 ≤ (k) ∧ (k) ≤ 3) (tgt := 25) hx hb dX6_draw_4 (by decide) (fun c4 => ?_) (fun c4 => ?_)
  · exact absurd hg.1 c4
  · refine lv_iload_n hx hb dX6_draw_7 rfl (lv_at hl 2 rfl) ?_
    refine vp_callSi (va_runS (As := [.int (zI (l0))]) (rest := []) ⟨hx, hb, hml, hown, hts⟩ (c_X6_isLane l l0 gl0) (va_cwS 1 hts gX6_draw_X6_isLane rfl rfl rfl (by decide +kernel) ⟨Nat.le_of_ble_eq_true rfl, Nat.le_of_ble_eq_true rfl⟩) ⟨fun a U g mk q => q, fun U hU hW => ⟨rfl, trivial⟩⟩ rfl rfl hl.1 rfl (lv_room (Nat.le_of_ble_eq_true rfl)) dX6_draw_8 ⟨Nat.le_of_ble_eq_true rfl, Nat.le_of_ble_eq_true rfl⟩).run (fun r hr8 => ?_)
    obtain rfl := hr8
    refine z_ifb_eq (P := 0 ≤ (l0) ∧ (l0) ≤ 2) (tgt := 25) hx hb dX6_draw_11 (by decide) (fun c11 => ?_) (fun c11 => ?_)
    · exact absurd hg.2.1 c11
    · refine lv_iload hx hb dX6_draw_14 (lv_at hl 4 rfl) ?_
      refine lv_iconst (v := zI 1) hx hb dX6_draw_16 rfl ?_
      refine lv_bipush (v := zI 32) hx hb dX6_draw_17 (by decide +kernel) ?_
      refine vp_callSi (va_runS (As := [.int (zI (n0)), .int (zI (1)), .int (zI (32))]) (rest := []) ⟨hx, hb, hml, hown, hts⟩ (c_X6_within l n0 1 32 gn0 (by omega) (by omega)) (va_cwS 3 hts gX6_draw_X6_within rfl rfl rfl (by decide +kernel) ⟨Nat.le_of_ble_eq_true rfl, Nat.le_of_ble_eq_true rfl⟩) ⟨fun a U g mk q => q, fun U hU hW => ⟨rfl, trivial⟩⟩ rfl rfl hl.1 rfl (lv_room (Nat.le_of_ble_eq_true rfl)) dX6_draw_19 ⟨Nat.le_of_ble_eq_true rfl, Nat.le_of_ble_eq_true rfl⟩).run (fun r hr19 => ?_)
      obtain rfl := hr19
      refine z_ifb_ne (P := (1) ≤ (n0) ∧ (n0) ≤ (32)) (tgt := 27) hx hb dX6_draw_22 (by decide) (fun c22 => ?_) (fun c22 => ?_)
      · refine lv_aload_n hx hb dX6_draw_27 rfl (lv_at hl 0 rfl) ?_
        refine va_get (D := D) (ci := 5) (v := .ref (a 2)) (C := RX6) (T := TX6) (N := 7) hx hb hts iX6 hown hK hP 0 rfl rfl 2 (by decide) (hts (.fieldLink RX6 19 "CancelRows" "sheets" "[LCancelRows$Sheet;") (by decide +kernel)) (fun _ h9 => h9) rfl dX6_draw_28 ?_
        refine lv_iload_n hx hb dX6_draw_31 rfl (lv_at hl 1 rfl) ?_
        have hk := hg.1
        refine q_aald hx hb hK hP 1 3 rfl rfl (k.toNat) (by omega) (by omega) (by omega) dX6_draw_32 ?_
        refine q_none (hs) ?_
        refine lv_astoreN (lv' := [(5, .null), (0, .ref x), (1, .int (zI (k))), (2, .int (zI (l0))), (3, .int (zI (f))), (4, .int (zI (n0)))]) hx hb dX6_draw_33 hl (by decide) rfl (fun ls hl => ?_)
        refine lv_aloadN hx hb dX6_draw_35 (lv_at hl 0 rfl) ?_
        refine lv_ifnonnullN hx hb dX6_draw_37 ?_
        refine lv_bipush (v := zI (-11)) hx hb dX6_draw_40 (by decide +kernel) ?_
        exact W.iret (v := (zI ((-11)))) hx hb hr (fun tq ht hW => ⟨_, rfl, rfl, ht⟩) (fun q h => by cases h) dX6_draw_42
      · exact absurd hg.2.2 c22

-- draw
set_option maxHeartbeats 4000000 in
set_option maxRecDepth 100000 in
theorem c_X6_draw_some (l : Launch) (D : va_G) (t : Nat → ClassId) (sz : Nat) (x : Nat) (a : Nat → Nat) (R : Nat) (F G : Nat → Nat) (gR : R ≤ 24) (sa : Nat → Option Nat) (q r0 n : Nat) (la : Int) (C : Nat → Int) (gn : n ≤ 64) (gC : ∀ j, -2147483648 ≤ C j ∧ C j < 2147483648) (gla : -2147483648 ≤ la ∧ la < 2147483648) (k l0 f n0 : Int) (gk : -2147483648 ≤ k ∧ k < 2147483648) (gl0 : -2147483648 ≤ l0 ∧ l0 < 2147483648) (gf : -2147483648 ≤ f ∧ f < 2147483648) (gn0 : -2147483648 ≤ n0 ∧ n0 < 2147483648) (hg : isK k ∧ isL l0 ∧ 1 ≤ n0 ∧ n0 ≤ 32) (hs : sa k.toNat = some q) : Met l yX6_draw wsX6_draw ({ frames := 2, cells := 0, slots := 0, locals := 42 }) (va_Pc [.ref x, .int (zI (k)), .int (zI (l0)), .int (zI (f)), .int (zI (n0))] (fun U => U.heap.size = sz ∧ va_P D vwCl ([oX x a (((R : Nat) : Int)), aI t (a 0) 24 (cN F), aJ t (a 1) 24 (G), aQ t 3 (a 2) 4 (sa), (q, .inr (4, [.int (zI (la)), .ref r0])), aI t r0 n (C)]) U.heap ∧ va_K D vwCl (TY t) U ∧ va_D (fun _ => True) ([oX x a (((R : Nat) : Int)), aI t (a 0) 24 (cN F), aJ t (a 1) 24 (G), aQ t 3 (a 2) 4 (sa), (q, .inr (4, [.int (zI (la)), .ref r0])), aI t r0 n (C)]))) (va_Qi (fun r (u : RT) => (r, u) = (fun z : Int × RT => (zI z.1, z.2)) (if ¬ la = l0 then (-13, R, F, G) else if dr C n f n0.toNat 0 = 0 then sp_add R F G n0.toNat (ob (drB C f) n0.toNat) else (dr C n f n0.toNat 0, R, F, G))) (fun (u : RT) t1 => va_P D vwCl ([oX x a (((u.1 : Nat) : Int)), aI t (a 0) 24 (cN (u.2.1)), aJ t (a 1) 24 (u.2.2), aQ t 3 (a 2) 4 (sa), (q, .inr (4, [.int (zI (la)), .ref r0])), aI t r0 n (C)]) t1.heap ∧ va_K D vwCl (TY t) t1 ∧ va_D (va_A ([oX x a (((R : Nat) : Int)), aI t (a 0) 24 (cN F), aJ t (a 1) 24 (G), aQ t 3 (a 2) 4 (sa), (q, .inr (4, [.int (zI (la)), .ref r0])), aI t r0 n (C)]) sz) ([oX x a (((u.1 : Nat) : Int)), aI t (a 0) 24 (cN (u.2.1)), aJ t (a 1) 24 (u.2.2), aQ t 3 (a 2) 4 (sa), (q, .inr (4, [.int (zI (la)), .ref r0])), aI t r0 n (C)])) (va_A ([oX x a (((R : Nat) : Int)), aI t (a 0) 24 (cN F), aJ t (a 1) 24 (G), aQ t 3 (a 2) 4 (sa), (q, .inr (4, [.int (zI (la)), .ref r0])), aI t r0 n (C)]) sz)) 0 0 (va_A ([oX x a (((R : Nat) : Int)), aI t (a 0) 24 (cN F), aJ t (a 1) 24 (G), aQ t 3 (a 2) 4 (sa), (q, .inr (4, [.int (zI (la)), .ref r0])), aI t r0 n (C)]) sz) := by
  refine Met.ofW (cc := cX6_draw) (maxL := 10) (ret := (some .int)) (by decide) rfl ?_
  intro p e s m args below meth c s₁ B hml hv
  obtain ⟨rfl, hsz, hP, hK, hD0⟩ := hv
  have hx := B.exec
  have hb := B.bytes
  have hr := B.returns
  have hts := atoms_spec (ws := wsX6_draw) B.pre
  have hown : s.vm.findClass RX6 = some m.cls := findClass_of_methodNamed B.named
  have hlocks := B.notSynchronized
  subst hsz
  have hD := hD0.self (sz := s.heap.size)
  generalize hAe : va_A ([oX x a (((R : Nat) : Int)), aI t (a 0) 24 (cN F), aJ t (a 1) 24 (G), aQ t 3 (a 2) 4 (sa), (q, .inr (4, [.int (zI (la)), .ref r0])), aI t r0 n (C)]) s.heap.size = AA at hD ⊢
  have hA : ∀ q : Nat, s.heap.size ≤ q → AA q := fun q h => by rw [← hAe]; exact Or.inr h
  have hS : va_S AA s.heap s.heap [] := va_S.rf
  have hP : va_P D vwCl ([oX x a (((R : Nat) : Int)), aI t (a 0) 24 (cN F), aJ t (a 1) 24 (G), aQ t 3 (a 2) 4 (sa), (q, .inr (4, [.int (zI (la)), .ref r0])), aI t r0 n (C)]) s.heap := hP
  have hl := lv_entry ([.ref x, .int (zI (k)), .int (zI (l0)), .int (zI (f)), .int (zI (n0))]) (n := 10) (Nat.le_of_ble_eq_true rfl)
  rw [lg_entry_eq]
  generalize (lg_sl ([.ref x, .int (zI (k)), .int (zI (l0)), .int (zI (f)), .int (zI (n0))]) ++ List.replicate (10 - (lg_sl ([.ref x, .int (zI (k)), .int (zI (l0)), .int (zI (f)), .int (zI (n0))])).length) Slot.unset).toArray = ls at hl ⊢
  have hl : lv_has ls 10 [(0, .ref x), (1, .int (zI (k))), (2, .int (zI (l0))), (3, .int (zI (f))), (4, .int (zI (n0)))] := hl
  have iX2 : ∀ w ∈ u_ws RX2 TX2 2, w ∈ wsX6_draw := by decide +kernel
  have iX6 : ∀ w ∈ u_ws RX6 TX6 7, w ∈ wsX6_draw := by decide +kernel
  refine lv_iload_n hx hb dX6_draw_0 rfl (lv_at hl 1 rfl) ?_
  refine vp_callSi (va_runS (As := [.int (zI (k))]) (rest := []) ⟨hx, hb, hml, hown, hts⟩ (c_X6_isSheet l k gk) (va_cwS 1 hts gX6_draw_X6_isSheet rfl rfl rfl (by decide +kernel) ⟨Nat.le_of_ble_eq_true rfl, Nat.le_of_ble_eq_true rfl⟩) ⟨fun a U g mk q => q, fun U hU hW => ⟨rfl, trivial⟩⟩ rfl rfl hl.1 rfl (lv_room (Nat.le_of_ble_eq_true rfl)) dX6_draw_1 ⟨Nat.le_of_ble_eq_true rfl, Nat.le_of_ble_eq_true rfl⟩).run (fun r hr1 => ?_)
  obtain rfl := hr1
  refine z_ifb_eq (P := 0 ≤ (k) ∧ (k) ≤ 3) (tgt := 25) hx hb dX6_draw_4 (by decide) (fun c4 => ?_) (fun c4 => ?_)
  · exact absurd hg.1 c4
  · refine lv_iload_n hx hb dX6_draw_7 rfl (lv_at hl 2 rfl) ?_
    refine vp_callSi (va_runS (As := [.int (zI (l0))]) (rest := []) ⟨hx, hb, hml, hown, hts⟩ (c_X6_isLane l l0 gl0) (va_cwS 1 hts gX6_draw_X6_isLane rfl rfl rfl (by decide +kernel) ⟨Nat.le_of_ble_eq_true rfl, Nat.le_of_ble_eq_true rfl⟩) ⟨fun a U g mk q => q, fun U hU hW => ⟨rfl, trivial⟩⟩ rfl rfl hl.1 rfl (lv_room (Nat.le_of_ble_eq_true rfl)) dX6_draw_8 ⟨Nat.le_of_ble_eq_true rfl, Nat.le_of_ble_eq_true rfl⟩).run (fun r hr8 => ?_)
    obtain rfl := hr8
    refine z_ifb_eq (P := 0 ≤ (l0) ∧ (l0) ≤ 2) (tgt := 25) hx hb dX6_draw_11 (by decide) (fun c11 => ?_) (fun c11 => ?_)
    · exact absurd hg.2.1 c11
    · refine lv_iload hx hb dX6_draw_14 (lv_at hl 4 rfl) ?_
      refine lv_iconst (v := zI 1) hx hb dX6_draw_16 rfl ?_
      refine lv_bipush (v := zI 32) hx hb dX6_draw_17 (by decide +kernel) ?_
      refine vp_callSi (va_runS (As := [.int (zI (n0)), .int (zI (1)), .int (zI (32))]) (rest := []) ⟨hx, hb, hml, hown, hts⟩ (c_X6_within l n0 1 32 gn0 (by omega) (by omega)) (va_cwS 3 hts gX6_draw_X6_within rfl rfl rfl (by decide +kernel) ⟨Nat.le_of_ble_eq_true rfl, Nat.le_of_ble_eq_true rfl⟩) ⟨fun a U g mk q => q, fun U hU hW => ⟨rfl, trivial⟩⟩ rfl rfl hl.1 rfl (lv_room (Nat.le_of_ble_eq_true rfl)) dX6_draw_19 ⟨Nat.le_of_ble_eq_true rfl, Nat.le_of_ble_eq_true rfl⟩).run (fun r hr19 => ?_)
      obtain rfl := hr19
      refine z_ifb_ne (P := (1) ≤ (n0) ∧ (n0) ≤ (32)) (tgt := 27) hx hb dX6_draw_22 (by decide) (fun c22 => ?_) (fun c22 => ?_)
      · refine lv_aload_n hx hb dX6_draw_27 rfl (lv_at hl 0 rfl) ?_
        refine va_get (D := D) (ci := 5) (v := .ref (a 2)) (C := RX6) (T := TX6) (N := 7) hx hb hts iX6 hown hK hP 0 rfl rfl 2 (by decide) (hts (.fieldLink RX6 19 "CancelRows" "sheets" "[LCancelRows$Sheet;") (by decide +kernel)) (fun _ h9 => h9) rfl dX6_draw_28 ?_
        refine lv_iload_n hx hb dX6_draw_31 rfl (lv_at hl 1 rfl) ?_
        have hk := hg.1
        refine q_aald hx hb hK hP 3 3 rfl rfl (k.toNat) (by omega) (by omega) (by omega) dX6_draw_32 ?_
        refine q_some (x := q) (hs) ?_
        refine lv_astore (lv' := [(5, .ref q), (0, .ref x), (1, .int (zI (k))), (2, .int (zI (l0))), (3, .int (zI (f))), (4, .int (zI (n0)))]) hx hb dX6_draw_33 hl (by decide) rfl (fun ls hl => ?_)
        refine lv_aload hx hb dX6_draw_35 (lv_at hl 0 rfl) ?_
        refine lv_ifnonnull (tgt := 43) hx hb dX6_draw_37 (by decide) ?_
        refine lv_aload hx hb dX6_draw_43 (lv_at hl 0 rfl) ?_
        refine va_get (D := D) (ci := 4) (v := .int (zI (la))) (C := RX2) (T := TX2) (N := 2) hx hb hts iX2 hown hK hP 4 rfl rfl 0 (by decide) (hts (.fieldLink RX6 76 "CancelRows$Sheet" "lane" "I") (by decide +kernel)) (fun _ h9 => h9) rfl dX6_draw_45 ?_
        refine lv_iload_n hx hb dX6_draw_48 rfl (lv_at hl 3 rfl) ?_
        refine z_icmp_eq (tgt := 55) hx hb dX6_draw_49 (by decide) (by omega) (by omega) (fun c49 => ?_) (fun c49 => ?_)
        · refine lv_lconst (v := lN 0) hx hb dX6_draw_55 rfl ?_
          refine n_re (e2 := ob (drB C f) 0) (rfl) ?_
          refine lv_lstore (lv' := [(6, .long (lN (ob (drB C f) 0))), (5, .ref q), (0, .ref x), (1, .int (zI (k))), (2, .int (zI (l0))), (3, .int (zI (f))), (4, .int (zI (n0)))]) hx hb dX6_draw_56 hl (by decide) rfl (fun ls hl => ?_)
          refine lv_iconst (v := zI 0) hx hb dX6_draw_58 rfl ?_
          refine z_re (e2 := ((0 : Nat) : Int)) (rfl) ?_
          refine lv_istore (lv' := [(8, .int (zI (((0 : Nat) : Int)))), (6, .long (lN (ob (drB C f) 0))), (5, .ref q), (0, .ref x), (1, .int (zI (k))), (2, .int (zI (l0))), (3, .int (zI (f))), (4, .int (zI (n0)))]) hx hb dX6_draw_59 hl (by decide) rfl (fun ls hl => ?_)
          have lp61 : ∀ (NN : Nat) (i : Nat) (q1 : i ≤ n0.toNat) (q2 : dr C n f n0.toNat 0 = dr C n f (n0.toNat - i) i) (q3 : 0 < i → 0 ≤ f + i ∧ f + i ≤ 64), n0.toNat - i < NN → ∀ (H : Heap) (locs : List Loc), va_P D vwCl [oX x a (((R : Nat) : Int)), aI t (a 0) 24 (cN F), aJ t (a 1) 24 (G), aQ t 3 (a 2) 4 (sa), (q, .inr (4, [.int (zI (la)), .ref r0])), aI t r0 n (C)] H → va_D AA [oX x a (((R : Nat) : Int)), aI t (a 0) 24 (cN F), aJ t (a 1) 24 (G), aQ t 3 (a 2) 4 (sa), (q, .inr (4, [.int (zI (la)), .ref r0])), aI t r0 n (C)] → va_S AA s.heap H locs → ∀ (ls : Array Slot), lv_has ls 10 [(0, .ref x), (1, .int (zI (k))), (2, .int (zI (l0))), (3, .int (zI (f))), (4, .int (zI (n0))), (5, .ref q), (6, .long (lN (ob (drB C f) i))), (8, .int (zI (i)))] → W p l e (headSpec wsX6_draw ({ frames := 2, cells := 0, slots := 0, locals := 42 })).room s m ([.ref x, .int (zI (k)), .int (zI (l0)), .int (zI (f)), .int (zI (n0))] : List Value).toArray below meth c H locs 0 0 (MQ below (va_Qi (fun r (u : RT) => (r, u) = (fun z : Int × RT => (zI z.1, z.2)) (if ¬ la = l0 then (-13, R, F, G) else if dr C n f n0.toNat 0 = 0 then sp_add R F G n0.toNat (ob (drB C f) n0.toNat) else (dr C n f n0.toNat 0, R, F, G))) (fun (u : RT) t1 => va_P D vwCl ([oX x a (((u.1 : Nat) : Int)), aI t (a 0) 24 (cN (u.2.1)), aJ t (a 1) 24 (u.2.2), aQ t 3 (a 2) 4 (sa), (q, .inr (4, [.int (zI (la)), .ref r0])), aI t r0 n (C)]) t1.heap ∧ va_K D vwCl (TY t) t1 ∧ va_D (AA) ([oX x a (((u.1 : Nat) : Int)), aI t (a 0) 24 (cN (u.2.1)), aJ t (a 1) 24 (u.2.2), aQ t 3 (a 2) 4 (sa), (q, .inr (4, [.int (zI (la)), .ref r0])), aI t r0 n (C)])) (AA)) ([.ref x, .int (zI (k)), .int (zI (l0)), .int (zI (f)), .int (zI (n0))] : List Value).toArray s 0 0 (AA)) (F0 m 61 ls []) := by
            intro NN
            induction NN with
            | zero =>
              intro i q1 q2 q3 hmu
              exact absurd hmu (Nat.not_lt_zero _)
            | succ NN ih61 =>
              intro i q1 q2 q3 hmu H locs hP hD hS ls hl
              have b1 := gC (f + (i : Int)).toNat
              refine lv_iload hx hb dX6_draw_61 (lv_at hl 7 rfl) ?_
              refine lv_iload hx hb dX6_draw_63 (lv_at hl 4 rfl) ?_
              refine z_icmp_ge (tgt := 136) hx hb dX6_draw_65 (by decide) (by omega) (by omega) (fun c65 => ?_) (fun c65 => ?_)
              · have hz : dr C n f n0.toNat 0 = 0 := by rw [q2]; exact dr_e C n f (by omega)
                have hi : i = n0.toNat := by omega
                refine lv_aload_n hx hb dX6_draw_136 rfl (lv_at hl 0 rfl) ?_
                refine lv_iload hx hb dX6_draw_137 (lv_at hl 4 rfl) ?_
                refine lv_iconst (v := zI 1) hx hb dX6_draw_139 rfl ?_
                have hPc := hP.sub (ws' := [oX x a (((R : Nat) : Int))]) [0] rfl
                refine vp_callSi (va_runV (As := [.int (zI (n0)), .int (zI (1))]) (rest := []) ⟨hx, hb, hml, hown, hts⟩ (c_X6_fits l D t x a R gR n0 1 gn0 (by omega)) (cwV 2 hts gX6_draw_X6_fits rfl rfl rfl (by decide +kernel) ⟨Nat.le_of_ble_eq_true rfl, Nat.le_of_ble_eq_true rfl⟩) ⟨fun a U g mk q => ⟨q.1, q.2.1, va_K.moved (u := U) (U := U.calling g mk a) (Vm.Alike.refl U.vm) q.2.2⟩, va_recv hK hPc (ci := 5) (q0 := 0) rfl rfl, fun U hU hW => ⟨rfl, by rw [hU]; exact hPc, va_K.moved hW.alike hK⟩⟩ rfl rfl hl.1 rfl (lv_room (Nat.le_of_ble_eq_true rfl)) dX6_draw_140 ⟨Nat.le_of_ble_eq_true rfl, Nat.le_of_ble_eq_true rfl⟩).run (fun r hr140 => ?_)
                obtain rfl := hr140
                refine z_ifb_eq (P := (n0) ≤ 32 ∧ (R : Int) + (1) ≤ 24) (tgt := 157) hx hb dX6_draw_143 (by decide) (fun c143 => ?_) (fun c143 => ?_)
                · refine lv_bipush (v := zI (-3)) hx hb dX6_draw_157 (by decide +kernel) ?_
                  have hP := hP.sub (ws' := [oX x a (((R : Nat) : Int)), aI t (a 0) 24 (cN (F)), aJ t (a 1) 24 (G), aQ t 3 (a 2) 4 (sa), (q, .inr (4, [.int (zI (la)), .ref r0])), aI t r0 n (C)]) [0, 1, 2, 3, 4, 5] rfl
                  have hD := hD.sub (ws' := [oX x a (((R : Nat) : Int)), aI t (a 0) 24 (cN (F)), aJ t (a 1) 24 (G), aQ t 3 (a 2) 4 (sa), (q, .inr (4, [.int (zI (la)), .ref r0])), aI t r0 n (C)]) [0, 1, 2, 3, 4, 5] (by decide) rfl
                  exact W.iret (v := (zI ((-3)))) hx hb hr (fun tq ht hW => ⟨⟨_, (R, F, G), rfl, by rw [if_neg (by omega), if_pos hz, sp_add_n (by omega)], by rw [ht]; exact hP, va_K.moved hW.alike hK, hD⟩, hS.F ht⟩) hS.2.2 dX6_draw_159
                · refine lv_aload_n hx hb dX6_draw_146 rfl (lv_at hl 0 rfl) ?_
                  refine lv_iload hx hb dX6_draw_147 (lv_at hl 4 rfl) ?_
                  refine z_re (e2 := ((n0.toNat : Nat) : Int)) (by omega) ?_
                  refine lv_lload hx hb dX6_draw_149 (lv_at hl 6 rfl) ?_
                  refine n_re (e2 := ob (drB C f) n0.toNat) (by rw [hi]) ?_
                  have hPc := hP.sub (ws' := [oX x a (((R : Nat) : Int)), aI t (a 0) 24 (cN F), aJ t (a 1) 24 (G)]) [0, 1, 2] rfl
                  have hDc := hD.sub (ws' := [oX x a (((R : Nat) : Int)), aI t (a 0) 24 (cN F), aJ t (a 1) 24 (G)]) [0, 1, 2] (by decide) rfl
                  have hFc := va_free (wc := [oX x a (((R : Nat) : Int)), aI t (a 0) 24 (cN F), aJ t (a 1) 24 (G)]) hD hS hA [0, 1, 2] rfl
                  refine va_calli (va_runV (As := [.int (zI (((n0.toNat : Nat) : Int))), .long (lN (ob (drB C f) n0.toNat))]) (rest := []) ⟨hx, hb, hml, hown, hts⟩ (c_X6_added l D t H.size x a (R) (F) (G) (by omega) (n0.toNat) (ob (drB C f) n0.toNat) (by omega)) (cwV 2 hts gX6_draw_X6_added rfl rfl rfl (by decide +kernel) ⟨Nat.le_of_ble_eq_true rfl, Nat.le_of_ble_eq_true rfl⟩) ⟨fun a U g mk q => by obtain ⟨q0, q1, qP, qK, qD⟩ := q; exact ⟨q0, q1, qP, va_K.moved (u := U) (U := U.calling g mk a) (Vm.Alike.refl U.vm) qK, qD⟩, va_recv hK hPc (ci := 5) (q0 := 0) rfl rfl, fun U hU hW => ⟨rfl, by rw [hU], by rw [hU]; exact hPc, va_K.moved hW.alike hK, hDc.weaken (fun _ _ _ _ => trivial)⟩⟩ rfl rfl hl.1 rfl (lv_room (Nat.le_of_ble_eq_true rfl)) dX6_draw_151 ⟨Nat.le_of_ble_eq_true rfl, Nat.le_of_ble_eq_true rfl⟩) hS (fun q _ h => hFc q h) hFc (fun r u tq H1 locs ht hvm hr151 hB hz1 hk1 hS => ?_)
                  obtain ⟨R2, F2, G2⟩ := u
                  obtain ⟨hP1, hK1, hD1⟩ := hB
                  rw [ht] at hP1
                  obtain ⟨hP, hD⟩ := va_join (wr := [aQ t 3 (a 2) 4 (sa), (q, .inr (4, [.int (zI (la)), .ref r0])), aI t r0 n (C)]) (w1 := [oX x a (((R2 : Nat) : Int)), aI t (a 0) 24 (cN (F2)), aJ t (a 1) 24 (G2)]) hP hD [0, 1, 2] [3, 4, 5] rfl rfl (by decide) (by decide) hk1 hFc hP1 hD1
                  generalize H1 = H at hP hS ⊢
                  have hP : va_P D vwCl [aQ t 3 (a 2) 4 (sa), (q, .inr (4, [.int (zI (la)), .ref r0])), aI t r0 n (C), oX x a (((R2 : Nat) : Int)), aI t (a 0) 24 (cN (F2)), aJ t (a 1) 24 (G2)] H := hP
                  have hD : va_D AA [aQ t 3 (a 2) 4 (sa), (q, .inr (4, [.int (zI (la)), .ref r0])), aI t r0 n (C), oX x a (((R2 : Nat) : Int)), aI t (a 0) 24 (cN (F2)), aJ t (a 1) 24 (G2)] := hD
                  obtain ⟨rfl, hu⟩ := hr151
                  obtain ⟨rfl, rfl, rfl⟩ : R2 = R + 1 ∧ F2 = va_up (F) (R) (n0.toNat) ∧ G2 = va_up (G) (R) (ob (drB C f) n0.toNat) := ⟨congrArg (·.1) hu, congrArg (·.2.1) hu, congrArg (·.2.2) hu⟩
                  refine lv_goto (tgt := 159) hx hb dX6_draw_154 (by decide) ?_
                  have hP := hP.sub (ws' := [oX x a (((R + 1 : Nat) : Int)), aI t (a 0) 24 (cN (va_up F R (n0.toNat))), aJ t (a 1) 24 (va_up G R (ob (drB C f) n0.toNat)), aQ t 3 (a 2) 4 (sa), (q, .inr (4, [.int (zI (la)), .ref r0])), aI t r0 n (C)]) [3, 4, 5, 0, 1, 2] rfl
                  have hD := hD.sub (ws' := [oX x a (((R + 1 : Nat) : Int)), aI t (a 0) 24 (cN (va_up F R (n0.toNat))), aJ t (a 1) 24 (va_up G R (ob (drB C f) n0.toNat)), aQ t 3 (a 2) 4 (sa), (q, .inr (4, [.int (zI (la)), .ref r0])), aI t r0 n (C)]) [3, 4, 5, 0, 1, 2] (by decide) rfl
                  exact W.iret (v := (zI (((R : Nat) : Int)))) hx hb hr (fun tq ht hW => ⟨⟨_, (R + 1, va_up F R (n0.toNat), va_up G R (ob (drB C f) n0.toNat)), rfl, by rw [if_neg (by omega), if_pos hz, sp_add_y (by omega)], by rw [ht]; exact hP, va_K.moved hW.alike hK, hD⟩, hS.F ht⟩) hS.2.2 dX6_draw_159
              · refine lv_aload hx hb dX6_draw_68 (lv_at hl 5 rfl) ?_
                refine lv_iload_n hx hb dX6_draw_70 rfl (lv_at hl 3 rfl) ?_
                refine lv_iload hx hb dX6_draw_71 (lv_at hl 7 rfl) ?_
                refine z_iadd hx hb dX6_draw_73 ?_
                refine z_re (e2 := f + (i : Int)) (rfl) ?_
                have hPc := hP.sub (ws' := [(q, .inr (4, [.int (zI (la)), .ref r0])), aI t r0 n (C)]) [4, 5] rfl
                refine vp_callSi (va_runV (As := [.int (zI (f + (i : Int)))]) (rest := []) ⟨hx, hb, hml, hown, hts⟩ (c_X2_has l D t q r0 n la C gn (f + (i : Int)) (by omega)) (cwV 1 hts gX6_draw_X2_has rfl rfl rfl (by decide +kernel) ⟨Nat.le_of_ble_eq_true rfl, Nat.le_of_ble_eq_true rfl⟩) ⟨fun a U g mk q => ⟨q.1, q.2.1, va_K.moved (u := U) (U := U.calling g mk a) (Vm.Alike.refl U.vm) q.2.2⟩, va_recv hK hPc (ci := 4) (q0 := 0) rfl rfl, fun U hU hW => ⟨rfl, by rw [hU]; exact hPc, va_K.moved hW.alike hK⟩⟩ rfl rfl hl.1 rfl (lv_room (Nat.le_of_ble_eq_true rfl)) dX6_draw_74 ⟨Nat.le_of_ble_eq_true rfl, Nat.le_of_ble_eq_true rfl⟩).run (fun r hr74 => ?_)
                obtain rfl := hr74
                refine z_ifb_ne (P := 0 ≤ (f + (i : Int)) ∧ (f + (i : Int)) < (n : Int)) (tgt := 83) hx hb dX6_draw_77 (by decide) (fun c77 => ?_) (fun c77 => ?_)
                · refine lv_aload hx hb dX6_draw_83 (lv_at hl 5 rfl) ?_
                  refine lv_iload_n hx hb dX6_draw_85 rfl (lv_at hl 3 rfl) ?_
                  refine lv_iload hx hb dX6_draw_86 (lv_at hl 7 rfl) ?_
                  refine z_iadd hx hb dX6_draw_88 ?_
                  refine z_re (e2 := f + (i : Int)) (rfl) ?_
                  have hPc := hP.sub (ws' := [(q, .inr (4, [.int (zI (la)), .ref r0])), aI t r0 n (C)]) [4, 5] rfl
                  refine vp_callSi (va_runV (As := [.int (zI (f + (i : Int)))]) (rest := []) ⟨hx, hb, hml, hown, hts⟩ (c_X2_read l D t q r0 n la C gn (f + (i : Int)) (by omega) c77) (cwV 1 hts gX6_draw_X2_read rfl rfl rfl (by decide +kernel) ⟨Nat.le_of_ble_eq_true rfl, Nat.le_of_ble_eq_true rfl⟩) ⟨fun a U g mk q => ⟨q.1, q.2.1, va_K.moved (u := U) (U := U.calling g mk a) (Vm.Alike.refl U.vm) q.2.2⟩, va_recv hK hPc (ci := 4) (q0 := 0) rfl rfl, fun U hU hW => ⟨rfl, by rw [hU]; exact hPc, va_K.moved hW.alike hK⟩⟩ rfl rfl hl.1 rfl (lv_room (Nat.le_of_ble_eq_true rfl)) dX6_draw_89 ⟨Nat.le_of_ble_eq_true rfl, Nat.le_of_ble_eq_true rfl⟩).run (fun r hr89 => ?_)
                  obtain rfl := hr89
                  refine lv_istore (lv' := [(9, .int (zI (C (f + (i : Int)).toNat))), (0, .ref x), (1, .int (zI (k))), (2, .int (zI (l0))), (3, .int (zI (f))), (4, .int (zI (n0))), (5, .ref q), (6, .long (lN (ob (drB C f) i))), (8, .int (zI (i)))]) hx hb dX6_draw_92 hl (by decide) rfl (fun ls hl => ?_)
                  refine lv_iload hx hb dX6_draw_94 (lv_at hl 0 rfl) ?_
                  refine lv_iconst (v := zI 1) hx hb dX6_draw_96 rfl ?_
                  refine z_icmp_eq (tgt := 112) hx hb dX6_draw_97 (by decide) (by omega) (by omega) (fun c97 => ?_) (fun c97 => ?_)
                  · refine lv_lload hx hb dX6_draw_112 (lv_at hl 7 rfl) ?_
                    refine lv_iload hx hb dX6_draw_114 (lv_at hl 0 rfl) ?_
                    refine z_if_ge (tgt := 126) hx hb dX6_draw_116 (by decide) (by omega) (fun c116 => ?_) (fun c116 => ?_)
                    · refine lv_lconst (v := lN 0) hx hb dX6_draw_126 rfl ?_
                      refine n_lor hx hb dX6_draw_127 ?_
                      refine n_re (e2 := ob (drB C f) (i + 1)) (dr_0 c116) ?_
                      refine lv_lstore (lv' := [(6, .long (lN (ob (drB C f) (i + 1)))), (9, .int (zI (C (f + (i : Int)).toNat))), (0, .ref x), (1, .int (zI (k))), (2, .int (zI (l0))), (3, .int (zI (f))), (4, .int (zI (n0))), (5, .ref q), (8, .int (zI (i)))]) hx hb dX6_draw_128 hl (by decide) rfl (fun ls hl => ?_)
                      refine lv_iinc (v := zI (((i + 1 : Nat) : Int))) (lv' := [(8, .int (zI (((i + 1 : Nat) : Int)))), (6, .long (lN (ob (drB C f) (i + 1)))), (9, .int (zI (C (f + (i : Int)).toNat))), (0, .ref x), (1, .int (zI (k))), (2, .int (zI (l0))), (3, .int (zI (f))), (4, .int (zI (n0))), (5, .ref q)]) hx hb dX6_draw_130 hl (k := 8) rfl (zI_incr (by omega)) (by decide) rfl (fun ls hl => ?_)
                      refine lv_goto (tgt := 61) hx hb dX6_draw_133 (by decide) ?_
                      exact ih61 (i + 1) (by omega) (by rw [q2, dr_s C n f (by omega), if_neg (fun z => z c77), if_neg (fun z => by omega)]) (by omega) (by omega) _ _ hP hD hS _ (lv_sub hl [3, 4, 5, 6, 7, 8, 1, 0] rfl)
                    · refine lv_lconst (v := lN 1) hx hb dX6_draw_119 rfl ?_
                      refine lv_iload hx hb dX6_draw_120 (lv_at hl 8 rfl) ?_
                      refine n_lshl hx hb (q := i) (by omega) dX6_draw_122 ?_
                      refine lv_goto (tgt := 127) hx hb dX6_draw_123 (by decide) ?_
                      refine n_lor hx hb dX6_draw_127 ?_
                      refine n_re (e2 := ob (drB C f) (i + 1)) (dr_1 c116) ?_
                      refine lv_lstore (lv' := [(6, .long (lN (ob (drB C f) (i + 1)))), (9, .int (zI (C (f + (i : Int)).toNat))), (0, .ref x), (1, .int (zI (k))), (2, .int (zI (l0))), (3, .int (zI (f))), (4, .int (zI (n0))), (5, .ref q), (8, .int (zI (i)))]) hx hb dX6_draw_128 hl (by decide) rfl (fun ls hl => ?_)
                      refine lv_iinc (v := zI (((i + 1 : Nat) : Int))) (lv' := [(8, .int (zI (((i + 1 : Nat) : Int)))), (6, .long (lN (ob (drB C f) (i + 1)))), (9, .int (zI (C (f + (i : Int)).toNat))), (0, .ref x), (1, .int (zI (k))), (2, .int (zI (l0))), (3, .int (zI (f))), (4, .int (zI (n0))), (5, .ref q)]) hx hb dX6_draw_130 hl (k := 8) rfl (zI_incr (by omega)) (by decide) rfl (fun ls hl => ?_)
                      refine lv_goto (tgt := 61) hx hb dX6_draw_133 (by decide) ?_
                      exact ih61 (i + 1) (by omega) (by rw [q2, dr_s C n f (by omega), if_neg (fun z => z c77), if_neg (fun z => by omega)]) (by omega) (by omega) _ _ hP hD hS _ (lv_sub hl [3, 4, 5, 6, 7, 8, 1, 0] rfl)
                  · refine lv_iload hx hb dX6_draw_100 (lv_at hl 0 rfl) ?_
                    refine lv_iconst (v := zI (-1)) hx hb dX6_draw_102 rfl ?_
                    refine z_icmp_eq (tgt := 112) hx hb dX6_draw_103 (by decide) (by omega) (by omega) (fun c103 => ?_) (fun c103 => ?_)
                    · refine lv_lload hx hb dX6_draw_112 (lv_at hl 7 rfl) ?_
                      refine lv_iload hx hb dX6_draw_114 (lv_at hl 0 rfl) ?_
                      refine z_if_ge (tgt := 126) hx hb dX6_draw_116 (by decide) (by omega) (fun c116 => ?_) (fun c116 => ?_)
                      · refine lv_lconst (v := lN 0) hx hb dX6_draw_126 rfl ?_
                        refine n_lor hx hb dX6_draw_127 ?_
                        refine n_re (e2 := ob (drB C f) (i + 1)) (dr_0 c116) ?_
                        refine lv_lstore (lv' := [(6, .long (lN (ob (drB C f) (i + 1)))), (9, .int (zI (C (f + (i : Int)).toNat))), (0, .ref x), (1, .int (zI (k))), (2, .int (zI (l0))), (3, .int (zI (f))), (4, .int (zI (n0))), (5, .ref q), (8, .int (zI (i)))]) hx hb dX6_draw_128 hl (by decide) rfl (fun ls hl => ?_)
                        refine lv_iinc (v := zI (((i + 1 : Nat) : Int))) (lv' := [(8, .int (zI (((i + 1 : Nat) : Int)))), (6, .long (lN (ob (drB C f) (i + 1)))), (9, .int (zI (C (f + (i : Int)).toNat))), (0, .ref x), (1, .int (zI (k))), (2, .int (zI (l0))), (3, .int (zI (f))), (4, .int (zI (n0))), (5, .ref q)]) hx hb dX6_draw_130 hl (k := 8) rfl (zI_incr (by omega)) (by decide) rfl (fun ls hl => ?_)
                        refine lv_goto (tgt := 61) hx hb dX6_draw_133 (by decide) ?_
                        exact ih61 (i + 1) (by omega) (by rw [q2, dr_s C n f (by omega), if_neg (fun z => z c77), if_neg (fun z => by omega)]) (by omega) (by omega) _ _ hP hD hS _ (lv_sub hl [3, 4, 5, 6, 7, 8, 1, 0] rfl)
                      · refine lv_lconst (v := lN 1) hx hb dX6_draw_119 rfl ?_
                        refine lv_iload hx hb dX6_draw_120 (lv_at hl 8 rfl) ?_
                        refine n_lshl hx hb (q := i) (by omega) dX6_draw_122 ?_
                        refine lv_goto (tgt := 127) hx hb dX6_draw_123 (by decide) ?_
                        refine n_lor hx hb dX6_draw_127 ?_
                        refine n_re (e2 := ob (drB C f) (i + 1)) (dr_1 c116) ?_
                        refine lv_lstore (lv' := [(6, .long (lN (ob (drB C f) (i + 1)))), (9, .int (zI (C (f + (i : Int)).toNat))), (0, .ref x), (1, .int (zI (k))), (2, .int (zI (l0))), (3, .int (zI (f))), (4, .int (zI (n0))), (5, .ref q), (8, .int (zI (i)))]) hx hb dX6_draw_128 hl (by decide) rfl (fun ls hl => ?_)
                        refine lv_iinc (v := zI (((i + 1 : Nat) : Int))) (lv' := [(8, .int (zI (((i + 1 : Nat) : Int)))), (6, .long (lN (ob (drB C f) (i + 1)))), (9, .int (zI (C (f + (i : Int)).toNat))), (0, .ref x), (1, .int (zI (k))), (2, .int (zI (l0))), (3, .int (zI (f))), (4, .int (zI (n0))), (5, .ref q)]) hx hb dX6_draw_130 hl (k := 8) rfl (zI_incr (by omega)) (by decide) rfl (fun ls hl => ?_)
                        refine lv_goto (tgt := 61) hx hb dX6_draw_133 (by decide) ?_
                        exact ih61 (i + 1) (by omega) (by rw [q2, dr_s C n f (by omega), if_neg (fun z => z c77), if_neg (fun z => by omega)]) (by omega) (by omega) _ _ hP hD hS _ (lv_sub hl [3, 4, 5, 6, 7, 8, 1, 0] rfl)
                    · refine lv_bipush (v := zI (-20)) hx hb dX6_draw_106 (by decide +kernel) ?_
                      refine lv_iload hx hb dX6_draw_108 (lv_at hl 8 rfl) ?_
                      refine z_isub hx hb dX6_draw_110 ?_
                      refine z_re (e2 := -20 - (i : Int)) (rfl) ?_
                      have hv : dr C n f n0.toNat 0 = -20 - (i : Int) := by rw [q2]; exact dr_v C n f (by omega) c77 c97 c103
                      have hP := hP.sub (ws' := [oX x a (((R : Nat) : Int)), aI t (a 0) 24 (cN (F)), aJ t (a 1) 24 (G), aQ t 3 (a 2) 4 (sa), (q, .inr (4, [.int (zI (la)), .ref r0])), aI t r0 n (C)]) [0, 1, 2, 3, 4, 5] rfl
                      have hD := hD.sub (ws' := [oX x a (((R : Nat) : Int)), aI t (a 0) 24 (cN (F)), aJ t (a 1) 24 (G), aQ t 3 (a 2) 4 (sa), (q, .inr (4, [.int (zI (la)), .ref r0])), aI t r0 n (C)]) [0, 1, 2, 3, 4, 5] (by decide) rfl
                      exact W.iret (v := (zI (-20 - (i : Int)))) hx hb hr (fun tq ht hW => ⟨⟨_, (R, F, G), rfl, by rw [if_neg (by omega), hv, if_neg (by omega)], by rw [ht]; exact hP, va_K.moved hW.alike hK, hD⟩, hS.F ht⟩) hS.2.2 dX6_draw_111
                · refine lv_bipush (v := zI (-12)) hx hb dX6_draw_80 (by decide +kernel) ?_
                  have hv : dr C n f n0.toNat 0 = -12 := by rw [q2, dr_s C n f (by omega), if_pos c77]
                  have hP := hP.sub (ws' := [oX x a (((R : Nat) : Int)), aI t (a 0) 24 (cN (F)), aJ t (a 1) 24 (G), aQ t 3 (a 2) 4 (sa), (q, .inr (4, [.int (zI (la)), .ref r0])), aI t r0 n (C)]) [0, 1, 2, 3, 4, 5] rfl
                  have hD := hD.sub (ws' := [oX x a (((R : Nat) : Int)), aI t (a 0) 24 (cN (F)), aJ t (a 1) 24 (G), aQ t 3 (a 2) 4 (sa), (q, .inr (4, [.int (zI (la)), .ref r0])), aI t r0 n (C)]) [0, 1, 2, 3, 4, 5] (by decide) rfl
                  exact W.iret (v := (zI ((-12)))) hx hb hr (fun tq ht hW => ⟨⟨_, (R, F, G), rfl, by rw [if_neg (by omega), hv, if_neg (by decide)], by rw [ht]; exact hP, va_K.moved hW.alike hK, hD⟩, hS.F ht⟩) hS.2.2 dX6_draw_82
          exact lp61 _ (0) (by omega) (rfl) (by omega) (Nat.lt_succ_self _) _ _ hP hD hS _ (lv_sub hl [3, 4, 5, 6, 7, 2, 1, 0] rfl)
        · refine lv_bipush (v := zI (-13)) hx hb dX6_draw_52 (by decide +kernel) ?_
          have hP := hP.sub (ws' := [oX x a (((R : Nat) : Int)), aI t (a 0) 24 (cN (F)), aJ t (a 1) 24 (G), aQ t 3 (a 2) 4 (sa), (q, .inr (4, [.int (zI (la)), .ref r0])), aI t r0 n (C)]) [0, 1, 2, 3, 4, 5] rfl
          have hD := hD.sub (ws' := [oX x a (((R : Nat) : Int)), aI t (a 0) 24 (cN (F)), aJ t (a 1) 24 (G), aQ t 3 (a 2) 4 (sa), (q, .inr (4, [.int (zI (la)), .ref r0])), aI t r0 n (C)]) [0, 1, 2, 3, 4, 5] (by decide) rfl
          exact W.iret (v := (zI ((-13)))) hx hb hr (fun tq ht hW => ⟨⟨_, (R, F, G), rfl, by rw [if_pos (by omega)], by rw [ht]; exact hP, va_K.moved hW.alike hK, hD⟩, hS.F ht⟩) hS.2.2 dX6_draw_54
      · exact absurd hg.2.2 c22

-- count, sheet 0 nothing
set_option maxHeartbeats 4000000 in
set_option maxRecDepth 100000 in
theorem c_X6_count_none (l : Launch) (D : va_G) (t : Nat → ClassId) (x : Nat) (a : Nat → Nat) (R : Nat) (sa : Nat → Option Nat) (gR : R ≤ 24) (w : Int) (gw : -2147483648 ≤ w ∧ w < 2147483648) (hs : sa 0 = none) : Met l yX6_count wsX6_count ({ frames := 1, cells := 0, slots := 0, locals := 22 }) (va_Pc [.ref x, .int (zI (w))] (fun U => va_P D vwCl ([oX x a (((R : Nat) : Int)), aQ t 3 (a 2) 4 (sa)]) U.heap ∧ va_K D vwCl (TY t) U)) (vp_Si (fun r => r = zI (if w = 0 then (R : Int) else if w = 1 then -4 else -1))) 0 0 (fun _ => False) := by
  refine Met.ofW (cc := cX6_count) (maxL := 3) (ret := (some .int)) (by decide) rfl ?_
  intro p e s m args below meth c s₁ B hml hv
  obtain ⟨rfl, hP, hK⟩ := hv
  have hx := B.exec
  have hb := B.bytes
  have hr := B.returns
  have hts := atoms_spec (ws := wsX6_count) B.pre
  have hown : s.vm.findClass RX6 = some m.cls := findClass_of_methodNamed B.named
  have hlocks := B.notSynchronized
  have hl := lv_entry ([.ref x, .int (zI (w))]) (n := 3) (Nat.le_of_ble_eq_true rfl)
  rw [lg_entry_eq]
  generalize (lg_sl ([.ref x, .int (zI (w))]) ++ List.replicate (3 - (lg_sl ([.ref x, .int (zI (w))])).length) Slot.unset).toArray = ls at hl ⊢
  have hl : lv_has ls 3 [(0, .ref x), (1, .int (zI (w)))] := hl
  have iX6 : ∀ w ∈ u_ws RX6 TX6 7, w ∈ wsX6_count := by decide +kernel
  refine lv_iload_n hx hb dX6_count_0 rfl (lv_at hl 1 rfl) ?_
  refine lv_iconst (v := zI 0) hx hb dX6_count_1 rfl ?_
  refine lv_iconst (v := zI 1) hx hb dX6_count_2 rfl ?_
  refine vp_callSi (va_runS (As := [.int (zI (w)), .int (zI (0)), .int (zI (1))]) (rest := []) ⟨hx, hb, hml, hown, hts⟩ (c_X6_within l w 0 1 gw (by omega) (by omega)) (va_cwS 3 hts gX6_count_X6_within rfl rfl rfl (by decide +kernel) ⟨Nat.le_of_ble_eq_true rfl, Nat.le_of_ble_eq_true rfl⟩) ⟨fun a U g mk q => q, fun U hU hW => ⟨rfl, trivial⟩⟩ rfl rfl hl.1 rfl (lv_room (Nat.le_of_ble_eq_true rfl)) dX6_count_3 ⟨Nat.le_of_ble_eq_true rfl, Nat.le_of_ble_eq_true rfl⟩).run (fun r hr3 => ?_)
  obtain rfl := hr3
  refine z_ifb_ne (P := (0) ≤ (w) ∧ (w) ≤ (1)) (tgt := 11) hx hb dX6_count_6 (by decide) (fun c6 => ?_) (fun c6 => ?_)
  · refine lv_iload_n hx hb dX6_count_11 rfl (lv_at hl 1 rfl) ?_
    refine z_if_ne (tgt := 20) hx hb dX6_count_12 (by decide) (by omega) (fun c12 => ?_) (fun c12 => ?_)
    · refine lv_aload_n hx hb dX6_count_20 rfl (lv_at hl 0 rfl) ?_
      refine va_get (D := D) (ci := 5) (v := .ref (a 2)) (C := RX6) (T := TX6) (N := 7) hx hb hts iX6 hown hK hP 0 rfl rfl 2 (by decide) (hts (.fieldLink RX6 19 "CancelRows" "sheets" "[LCancelRows$Sheet;") (by decide +kernel)) (fun _ h9 => h9) rfl dX6_count_21 ?_
      refine lv_iconst (v := zI 0) hx hb dX6_count_24 rfl ?_
      refine q_aald hx hb hK hP 1 3 rfl rfl (0) (by omega) (by omega) (by omega) dX6_count_25 ?_
      refine q_none (hs) ?_
      refine lv_astore_nN (lv' := [(2, .null), (0, .ref x), (1, .int (zI (w)))]) hx hb dX6_count_26 rfl hl (by decide) rfl (fun ls hl => ?_)
      refine lv_aload_nN hx hb dX6_count_27 rfl (lv_at hl 0 rfl) ?_
      refine lv_ifnonnullN hx hb dX6_count_28 ?_
      refine lv_bipush (v := zI (-4)) hx hb dX6_count_31 (by decide +kernel) ?_
      refine lv_goto (tgt := 40) hx hb dX6_count_33 (by decide) ?_
      exact W.iret (v := (zI ((-4)))) hx hb hr (fun tq ht hW => ⟨_, rfl, by rw [if_neg (by omega), if_pos (by omega)], ht⟩) (fun q h => by cases h) dX6_count_40
    · refine lv_aload_n hx hb dX6_count_15 rfl (lv_at hl 0 rfl) ?_
      refine va_get (D := D) (ci := 5) (v := .int (zI (((R : Nat) : Int)))) (C := RX6) (T := TX6) (N := 7) hx hb hts iX6 hown hK hP 0 rfl rfl 6 (by decide) (hts (.fieldLink RX6 38 "CancelRows" "rows" "I") (by decide +kernel)) (fun _ h9 => h9) rfl dX6_count_16 ?_
      exact W.iret (v := (zI (((R : Nat) : Int)))) hx hb hr (fun tq ht hW => ⟨_, rfl, by rw [if_pos (by omega)], ht⟩) (fun q h => by cases h) dX6_count_19
  · refine lv_iconst (v := zI (-1)) hx hb dX6_count_9 rfl ?_
    exact W.iret (v := (zI ((-1)))) hx hb hr (fun tq ht hW => ⟨_, rfl, by rw [if_neg (by omega), if_neg (by omega)], ht⟩) (fun q h => by cases h) dX6_count_10

-- count
set_option maxHeartbeats 4000000 in
set_option maxRecDepth 100000 in
theorem c_X6_count_some (l : Launch) (D : va_G) (t : Nat → ClassId) (x : Nat) (a : Nat → Nat) (R : Nat) (sa : Nat → Option Nat) (q r0 n : Nat) (la : Int) (C : Nat → Int) (gn : n ≤ 64) (gl : la = 0 ∨ la = 1 ∨ la = 2) (gR : R ≤ 24) (w : Int) (gw : -2147483648 ≤ w ∧ w < 2147483648) (hs : sa 0 = some q) : Met l yX6_count wsX6_count ({ frames := 1, cells := 0, slots := 0, locals := 22 }) (va_Pc [.ref x, .int (zI (w))] (fun U => va_P D vwCl ([oX x a (((R : Nat) : Int)), aQ t 3 (a 2) 4 (sa), (q, .inr (4, [.int (zI (la)), .ref r0])), aI t r0 n (C)]) U.heap ∧ va_K D vwCl (TY t) U)) (vp_Si (fun r => r = zI (if w = 0 then (R : Int) else if w = 1 then (n : Int) else -1))) 0 0 (fun _ => False) := by
  refine Met.ofW (cc := cX6_count) (maxL := 3) (ret := (some .int)) (by decide) rfl ?_
  intro p e s m args below meth c s₁ B hml hv
  obtain ⟨rfl, hP, hK⟩ := hv
  have hx := B.exec
  have hb := B.bytes
  have hr := B.returns
  have hts := atoms_spec (ws := wsX6_count) B.pre
  have hown : s.vm.findClass RX6 = some m.cls := findClass_of_methodNamed B.named
  have hlocks := B.notSynchronized
  have hl := lv_entry ([.ref x, .int (zI (w))]) (n := 3) (Nat.le_of_ble_eq_true rfl)
  rw [lg_entry_eq]
  generalize (lg_sl ([.ref x, .int (zI (w))]) ++ List.replicate (3 - (lg_sl ([.ref x, .int (zI (w))])).length) Slot.unset).toArray = ls at hl ⊢
  have hl : lv_has ls 3 [(0, .ref x), (1, .int (zI (w)))] := hl
  have iX6 : ∀ w ∈ u_ws RX6 TX6 7, w ∈ wsX6_count := by decide +kernel
  refine lv_iload_n hx hb dX6_count_0 rfl (lv_at hl 1 rfl) ?_
  refine lv_iconst (v := zI 0) hx hb dX6_count_1 rfl ?_
  refine lv_iconst (v := zI 1) hx hb dX6_count_2 rfl ?_
  refine vp_callSi (va_runS (As := [.int (zI (w)), .int (zI (0)), .int (zI (1))]) (rest := []) ⟨hx, hb, hml, hown, hts⟩ (c_X6_within l w 0 1 gw (by omega) (by omega)) (va_cwS 3 hts gX6_count_X6_within rfl rfl rfl (by decide +kernel) ⟨Nat.le_of_ble_eq_true rfl, Nat.le_of_ble_eq_true rfl⟩) ⟨fun a U g mk q => q, fun U hU hW => ⟨rfl, trivial⟩⟩ rfl rfl hl.1 rfl (lv_room (Nat.le_of_ble_eq_true rfl)) dX6_count_3 ⟨Nat.le_of_ble_eq_true rfl, Nat.le_of_ble_eq_true rfl⟩).run (fun r hr3 => ?_)
  obtain rfl := hr3
  refine z_ifb_ne (P := (0) ≤ (w) ∧ (w) ≤ (1)) (tgt := 11) hx hb dX6_count_6 (by decide) (fun c6 => ?_) (fun c6 => ?_)
  · refine lv_iload_n hx hb dX6_count_11 rfl (lv_at hl 1 rfl) ?_
    refine z_if_ne (tgt := 20) hx hb dX6_count_12 (by decide) (by omega) (fun c12 => ?_) (fun c12 => ?_)
    · refine lv_aload_n hx hb dX6_count_20 rfl (lv_at hl 0 rfl) ?_
      refine va_get (D := D) (ci := 5) (v := .ref (a 2)) (C := RX6) (T := TX6) (N := 7) hx hb hts iX6 hown hK hP 0 rfl rfl 2 (by decide) (hts (.fieldLink RX6 19 "CancelRows" "sheets" "[LCancelRows$Sheet;") (by decide +kernel)) (fun _ h9 => h9) rfl dX6_count_21 ?_
      refine lv_iconst (v := zI 0) hx hb dX6_count_24 rfl ?_
      refine q_aald hx hb hK hP 1 3 rfl rfl (0) (by omega) (by omega) (by omega) dX6_count_25 ?_
      refine q_some (x := q) (hs) ?_
      refine lv_astore_n (lv' := [(2, .ref q), (0, .ref x), (1, .int (zI (w)))]) hx hb dX6_count_26 rfl hl (by decide) rfl (fun ls hl => ?_)
      refine lv_aload_n hx hb dX6_count_27 rfl (lv_at hl 0 rfl) ?_
      refine lv_ifnonnull (tgt := 36) hx hb dX6_count_28 (by decide) ?_
      refine lv_aload_n hx hb dX6_count_36 rfl (lv_at hl 0 rfl) ?_
      have hPc := hP.sub (ws' := [(q, .inr (4, [.int (zI (la)), .ref r0])), aI t r0 n (C)]) [2, 3] rfl
      refine vp_callSi (va_runV (As := []) (rest := []) ⟨hx, hb, hml, hown, hts⟩ (c_X2_size l D t q r0 n la C gn) (cwV 0 hts gX6_count_X2_size rfl rfl rfl (by decide +kernel) ⟨Nat.le_of_ble_eq_true rfl, Nat.le_of_ble_eq_true rfl⟩) ⟨fun a U g mk q => ⟨q.1, q.2.1, va_K.moved (u := U) (U := U.calling g mk a) (Vm.Alike.refl U.vm) q.2.2⟩, va_recv hK hPc (ci := 4) (q0 := 0) rfl rfl, fun U hU hW => ⟨rfl, by rw [hU]; exact hPc, va_K.moved hW.alike hK⟩⟩ rfl rfl hl.1 rfl (lv_room (Nat.le_of_ble_eq_true rfl)) dX6_count_37 ⟨Nat.le_of_ble_eq_true rfl, Nat.le_of_ble_eq_true rfl⟩).run (fun r hr37 => ?_)
      obtain rfl := hr37
      exact W.iret (v := (zI (((n : Nat) : Int)))) hx hb hr (fun tq ht hW => ⟨_, rfl, by rw [if_neg (by omega), if_pos (by omega)], ht⟩) (fun q h => by cases h) dX6_count_40
    · refine lv_aload_n hx hb dX6_count_15 rfl (lv_at hl 0 rfl) ?_
      refine va_get (D := D) (ci := 5) (v := .int (zI (((R : Nat) : Int)))) (C := RX6) (T := TX6) (N := 7) hx hb hts iX6 hown hK hP 0 rfl rfl 6 (by decide) (hts (.fieldLink RX6 38 "CancelRows" "rows" "I") (by decide +kernel)) (fun _ h9 => h9) rfl dX6_count_16 ?_
      exact W.iret (v := (zI (((R : Nat) : Int)))) hx hb hr (fun tq ht hW => ⟨_, rfl, by rw [if_pos (by omega)], ht⟩) (fun q h => by cases h) dX6_count_19
  · refine lv_iconst (v := zI (-1)) hx hb dX6_count_9 rfl ?_
    exact W.iret (v := (zI ((-1)))) hx hb hr (fun tq ht hW => ⟨_, rfl, by rw [if_neg (by omega), if_neg (by omega)], ht⟩) (fun q h => by cases h) dX6_count_10

-- the check: sheet
set_option maxHeartbeats 4000000 in
set_option maxRecDepth 100000 in
theorem c_X7_sheet (l : Launch) (D : va_G) (t : Nat → ClassId) (sz : Nat) (y : Nat) (b : Nat → Nat) (R : Nat) (fm kn pm0 lm : Int) (La : Nat → Int) (Sz : Nat → Nat) (Ce : Nat → Int) (gS : shOK La Sz Ce) (k l0 n : Int) (gk : -2147483648 ≤ k ∧ k < 2147483648) (gl0 : -2147483648 ≤ l0 ∧ l0 < 2147483648) (gn : -2147483648 ≤ n ∧ n < 2147483648) : Met l yX7_sheet wsX7_sheet ({ frames := 1, cells := 0, slots := 0, locals := 25 }) (va_Pc [.ref y, .int (zI (k)), .int (zI (l0)), .int (zI (n))] (fun U => U.heap.size = sz ∧ va_P D vwCl ([oM y b (((R : Nat) : Int)) (fm) (kn) (pm0) (lm), aI t (b 2) 4 (La), aI t (b 3) 4 (cN Sz), aI t (b 4) 256 (Ce)]) U.heap ∧ va_K D vwCl (TY t) U ∧ va_D (fun _ => True) ([oM y b (((R : Nat) : Int)) (fm) (kn) (pm0) (lm), aI t (b 2) 4 (La), aI t (b 3) 4 (cN Sz), aI t (b 4) 256 (Ce)]))) (va_Qi (fun r (u : ShT) => r = zI (sp_sheet La Sz Ce k l0 n).1 ∧ u = (sp_sheet La Sz Ce k l0 n).2) (fun (u : ShT) t1 => va_P D vwCl ([oM y b (((R : Nat) : Int)) (fm) (kn) (pm0) (lm), aI t (b 2) 4 (u.1), aI t (b 3) 4 (cN (u.2.1)), aI t (b 4) 256 (u.2.2)]) t1.heap ∧ va_K D vwCl (TY t) t1 ∧ va_D (va_A ([oM y b (((R : Nat) : Int)) (fm) (kn) (pm0) (lm), aI t (b 2) 4 (La), aI t (b 3) 4 (cN Sz), aI t (b 4) 256 (Ce)]) sz) ([oM y b (((R : Nat) : Int)) (fm) (kn) (pm0) (lm), aI t (b 2) 4 (u.1), aI t (b 3) 4 (cN (u.2.1)), aI t (b 4) 256 (u.2.2)])) (va_A ([oM y b (((R : Nat) : Int)) (fm) (kn) (pm0) (lm), aI t (b 2) 4 (La), aI t (b 3) 4 (cN Sz), aI t (b 4) 256 (Ce)]) sz)) 0 0 (va_A ([oM y b (((R : Nat) : Int)) (fm) (kn) (pm0) (lm), aI t (b 2) 4 (La), aI t (b 3) 4 (cN Sz), aI t (b 4) 256 (Ce)]) sz) := by
  refine Met.ofW (cc := cX7_sheet) (maxL := 5) (ret := (some .int)) (by decide) rfl ?_
  intro p e s m args below meth c s₁ B hml hv
  obtain ⟨rfl, hsz, hP, hK, hD0⟩ := hv
  have hx := B.exec
  have hb := B.bytes
  have hr := B.returns
  have hts := atoms_spec (ws := wsX7_sheet) B.pre
  have hown : s.vm.findClass RX7 = some m.cls := findClass_of_methodNamed B.named
  have hlocks := B.notSynchronized
  subst hsz
  have hD := hD0.self (sz := s.heap.size)
  generalize hAe : va_A ([oM y b (((R : Nat) : Int)) (fm) (kn) (pm0) (lm), aI t (b 2) 4 (La), aI t (b 3) 4 (cN Sz), aI t (b 4) 256 (Ce)]) s.heap.size = AA at hD ⊢
  have hA : ∀ q : Nat, s.heap.size ≤ q → AA q := fun q h => by rw [← hAe]; exact Or.inr h
  have hS : va_S AA s.heap s.heap [] := va_S.rf
  have hP : va_P D vwCl ([oM y b (((R : Nat) : Int)) (fm) (kn) (pm0) (lm), aI t (b 2) 4 (La), aI t (b 3) 4 (cN Sz), aI t (b 4) 256 (Ce)]) s.heap := hP
  have hl := lv_entry ([.ref y, .int (zI (k)), .int (zI (l0)), .int (zI (n))]) (n := 5) (Nat.le_of_ble_eq_true rfl)
  rw [lg_entry_eq]
  generalize (lg_sl ([.ref y, .int (zI (k)), .int (zI (l0)), .int (zI (n))]) ++ List.replicate (5 - (lg_sl ([.ref y, .int (zI (k)), .int (zI (l0)), .int (zI (n))])).length) Slot.unset).toArray = ls at hl ⊢
  have hl : lv_has ls 5 [(0, .ref y), (1, .int (zI (k))), (2, .int (zI (l0))), (3, .int (zI (n)))] := hl
  have iX7 : ∀ w ∈ u_ws RX7 TX7 16, w ∈ wsX7_sheet := by decide +kernel
  refine lv_iload_n hx hb dX7_sheet_0 rfl (lv_at hl 1 rfl) ?_
  refine z_i2l hx hb (by omega) dX7_sheet_1 ?_
  refine lv_lconst (v := lN 0) hx hb dX7_sheet_2 rfl ?_
  refine lv_ldc2 (v := lN 3) hx hb hown (hts (.constantLong RX7 62 (lN 3)) (by decide +kernel)) dX7_sheet_3 ?_
  refine vp_callSi (va_runS (As := [.long (zL (k)), .long (lN (0)), .long (lN (3))]) (rest := []) ⟨hx, hb, hml, hown, hts⟩ (c_X7_in l _ _ _) (va_cwS 3 hts gX7_sheet_X7_in rfl rfl rfl (by decide +kernel) ⟨Nat.le_of_ble_eq_true rfl, Nat.le_of_ble_eq_true rfl⟩) ⟨fun a U g mk q => q, fun U hU hW => ⟨rfl, trivial⟩⟩ rfl rfl hl.1 rfl (lv_room (Nat.le_of_ble_eq_true rfl)) dX7_sheet_6 ⟨Nat.le_of_ble_eq_true rfl, Nat.le_of_ble_eq_true rfl⟩).run (fun r hr6 => ?_)
  have hq6 : r = zI (bP (((0 : Nat) : Int) ≤ k ∧ k ≤ ((3 : Nat) : Int))) := by rw [hr6]; exact congrArg zI (bP_cg (by simp only [zL_toInt (e := k) (by omega), lN_toI (n := 0) (by omega), lN_toI (n := 3) (by omega)]))
  obtain rfl := hq6
  refine z_ifb_eq (P := ((0 : Nat) : Int) ≤ k ∧ k ≤ ((3 : Nat) : Int)) (tgt := 30) hx hb dX7_sheet_9 (by decide) (fun c9 => ?_) (fun c9 => ?_)
  · refine lv_iconst (v := zI (-1)) hx hb dX7_sheet_30 rfl ?_
    exact W.iret (v := (zI ((-1)))) hx hb hr (fun tq ht hW => ⟨⟨_, (La, Sz, Ce), rfl, by rw [sp_sheet, if_neg (fun z => by omega)]; exact ⟨rfl, rfl⟩, by rw [ht]; exact hP, va_K.moved hW.alike hK, hD⟩, hS.F ht⟩) hS.2.2 dX7_sheet_31
  · refine lv_iload_n hx hb dX7_sheet_12 rfl (lv_at hl 2 rfl) ?_
    refine z_i2l hx hb (by omega) dX7_sheet_13 ?_
    refine lv_lconst (v := lN 0) hx hb dX7_sheet_14 rfl ?_
    refine lv_ldc2 (v := lN 2) hx hb hown (hts (.constantLong RX7 64 (lN 2)) (by decide +kernel)) dX7_sheet_15 ?_
    refine vp_callSi (va_runS (As := [.long (zL (l0)), .long (lN (0)), .long (lN (2))]) (rest := []) ⟨hx, hb, hml, hown, hts⟩ (c_X7_in l _ _ _) (va_cwS 3 hts gX7_sheet_X7_in rfl rfl rfl (by decide +kernel) ⟨Nat.le_of_ble_eq_true rfl, Nat.le_of_ble_eq_true rfl⟩) ⟨fun a U g mk q => q, fun U hU hW => ⟨rfl, trivial⟩⟩ rfl rfl hl.1 rfl (lv_room (Nat.le_of_ble_eq_true rfl)) dX7_sheet_18 ⟨Nat.le_of_ble_eq_true rfl, Nat.le_of_ble_eq_true rfl⟩).run (fun r hr18 => ?_)
    have hq18 : r = zI (bP (((0 : Nat) : Int) ≤ l0 ∧ l0 ≤ ((2 : Nat) : Int))) := by rw [hr18]; exact congrArg zI (bP_cg (by simp only [zL_toInt (e := l0) (by omega), lN_toI (n := 0) (by omega), lN_toI (n := 2) (by omega)]))
    obtain rfl := hq18
    refine z_ifb_eq (P := ((0 : Nat) : Int) ≤ l0 ∧ l0 ≤ ((2 : Nat) : Int)) (tgt := 30) hx hb dX7_sheet_21 (by decide) (fun c21 => ?_) (fun c21 => ?_)
    · refine lv_iconst (v := zI (-1)) hx hb dX7_sheet_30 rfl ?_
      exact W.iret (v := (zI ((-1)))) hx hb hr (fun tq ht hW => ⟨⟨_, (La, Sz, Ce), rfl, by rw [sp_sheet, if_neg (fun z => by omega)]; exact ⟨rfl, rfl⟩, by rw [ht]; exact hP, va_K.moved hW.alike hK, hD⟩, hS.F ht⟩) hS.2.2 dX7_sheet_31
    · refine lv_iload_n hx hb dX7_sheet_24 rfl (lv_at hl 3 rfl) ?_
      refine lv_bipush (v := zI 64) hx hb dX7_sheet_25 (by decide +kernel) ?_
      refine z_icmp_le (tgt := 32) hx hb dX7_sheet_27 (by decide) (by omega) (by omega) (fun c27 => ?_) (fun c27 => ?_)
      · refine lv_iload_n hx hb dX7_sheet_32 rfl (lv_at hl 3 rfl) ?_
        refine z_if_ge (tgt := 39) hx hb dX7_sheet_33 (by decide) (by omega) (fun c33 => ?_) (fun c33 => ?_)
        · refine lv_aload_n hx hb dX7_sheet_39 rfl (lv_at hl 0 rfl) ?_
          refine va_get (D := D) (ci := 6) (v := .ref (b 2)) (C := RX7) (T := TX7) (N := 16) hx hb hts iX7 hown hK hP 0 rfl rfl 3 (by decide) (hts (.fieldLink RX7 17 "CancelRowsModel" "lanes" "[I") (by decide +kernel)) (fun _ h9 => h9) rfl dX7_sheet_40 ?_
          refine lv_iload_n hx hb dX7_sheet_43 rfl (lv_at hl 1 rfl) ?_
          refine lv_iload_n hx hb dX7_sheet_44 rfl (lv_at hl 2 rfl) ?_
          refine z_iast hx hb hK hP hD hS 1 0 rfl rfl (k.toNat) (by omega) (by omega) (by omega) dX7_sheet_45 (fun H locs hP hD hS => ?_)
          have hP : va_P D vwCl [oM y b (((R : Nat) : Int)) (fm) (kn) (pm0) (lm), aI t (b 2) 4 (va_up (La) (k.toNat) (l0)), aI t (b 3) 4 (cN Sz), aI t (b 4) 256 (Ce)] H := hP
          have hD : va_D AA [oM y b (((R : Nat) : Int)) (fm) (kn) (pm0) (lm), aI t (b 2) 4 (va_up (La) (k.toNat) (l0)), aI t (b 3) 4 (cN Sz), aI t (b 4) 256 (Ce)] := hD
          refine lv_aload_n hx hb dX7_sheet_46 rfl (lv_at hl 0 rfl) ?_
          refine va_get (D := D) (ci := 6) (v := .ref (b 3)) (C := RX7) (T := TX7) (N := 16) hx hb hts iX7 hown hK hP 0 rfl rfl 4 (by decide) (hts (.fieldLink RX7 20 "CancelRowsModel" "sizes" "[I") (by decide +kernel)) (fun _ h9 => h9) rfl dX7_sheet_47 ?_
          refine lv_iload_n hx hb dX7_sheet_50 rfl (lv_at hl 1 rfl) ?_
          refine lv_iload_n hx hb dX7_sheet_51 rfl (lv_at hl 3 rfl) ?_
          refine z_re (e2 := ((n.toNat : Nat) : Int)) (by omega) ?_
          refine z_iast hx hb hK hP hD hS 2 0 rfl rfl (k.toNat) (by omega) (by omega) (by omega) dX7_sheet_52 (fun H locs hP hD hS => ?_)
          have hP : va_P D vwCl [oM y b (((R : Nat) : Int)) (fm) (kn) (pm0) (lm), aI t (b 2) 4 (va_up (La) (k.toNat) (l0)), aI t (b 3) 4 (va_up (cN Sz) (k.toNat) (((n.toNat) : Nat) : Int)), aI t (b 4) 256 (Ce)] H := hP
          have hD : va_D AA [oM y b (((R : Nat) : Int)) (fm) (kn) (pm0) (lm), aI t (b 2) 4 (va_up (La) (k.toNat) (l0)), aI t (b 3) 4 (va_up (cN Sz) (k.toNat) (((n.toNat) : Nat) : Int)), aI t (b 4) 256 (Ce)] := hD
          rw [cN_up] at hP hD
          refine lv_iconst (v := zI 0) hx hb dX7_sheet_53 rfl ?_
          refine z_re (e2 := ((0 : Nat) : Int)) (rfl) ?_
          refine lv_istore (lv' := [(4, .int (zI (((0 : Nat) : Int)))), (0, .ref y), (1, .int (zI (k))), (2, .int (zI (l0))), (3, .int (zI (n)))]) hx hb dX7_sheet_54 hl (by decide) rfl (fun ls hl => ?_)
          have lp56 : ∀ (NN : Nat) (i : Nat) (q1 : i ≤ 64), 64 - i < NN → ∀ (H : Heap) (locs : List Loc), va_P D vwCl [oM y b (((R : Nat) : Int)) (fm) (kn) (pm0) (lm), aI t (b 2) 4 (va_up La k.toNat l0), aI t (b 3) 4 (cN (va_up Sz k.toNat n.toNat)), aI t (b 4) 256 (fil Ce k.toNat i)] H → va_D AA [oM y b (((R : Nat) : Int)) (fm) (kn) (pm0) (lm), aI t (b 2) 4 (va_up La k.toNat l0), aI t (b 3) 4 (cN (va_up Sz k.toNat n.toNat)), aI t (b 4) 256 (fil Ce k.toNat i)] → va_S AA s.heap H locs → ∀ (ls : Array Slot), lv_has ls 5 [(0, .ref y), (1, .int (zI (k))), (4, .int (zI (i)))] → W p l e (headSpec wsX7_sheet ({ frames := 1, cells := 0, slots := 0, locals := 25 })).room s m ([.ref y, .int (zI (k)), .int (zI (l0)), .int (zI (n))] : List Value).toArray below meth c H locs 0 0 (MQ below (va_Qi (fun r (u : ShT) => r = zI (sp_sheet La Sz Ce k l0 n).1 ∧ u = (sp_sheet La Sz Ce k l0 n).2) (fun (u : ShT) t1 => va_P D vwCl ([oM y b (((R : Nat) : Int)) (fm) (kn) (pm0) (lm), aI t (b 2) 4 (u.1), aI t (b 3) 4 (cN (u.2.1)), aI t (b 4) 256 (u.2.2)]) t1.heap ∧ va_K D vwCl (TY t) t1 ∧ va_D (AA) ([oM y b (((R : Nat) : Int)) (fm) (kn) (pm0) (lm), aI t (b 2) 4 (u.1), aI t (b 3) 4 (cN (u.2.1)), aI t (b 4) 256 (u.2.2)])) (AA)) ([.ref y, .int (zI (k)), .int (zI (l0)), .int (zI (n))] : List Value).toArray s 0 0 (AA)) (F0 m 56 ls []) := by
            intro NN
            induction NN with
            | zero =>
              intro i q1 hmu
              exact absurd hmu (Nat.not_lt_zero _)
            | succ NN ih56 =>
              intro i q1 hmu H locs hP hD hS ls hl
              refine lv_iload hx hb dX7_sheet_56 (lv_at hl 2 rfl) ?_
              refine lv_bipush (v := zI 64) hx hb dX7_sheet_58 (by decide +kernel) ?_
              refine z_icmp_ge (tgt := 82) hx hb dX7_sheet_60 (by decide) (by omega) (by omega) (fun c60 => ?_) (fun c60 => ?_)
              · obtain rfl : i = 64 := by omega
                refine lv_iconst (v := zI 1) hx hb dX7_sheet_82 rfl ?_
                have hP := hP.sub (ws' := [oM y b (((R : Nat) : Int)) (fm) (kn) (pm0) (lm), aI t (b 2) 4 (va_up La k.toNat l0), aI t (b 3) 4 (cN (va_up Sz k.toNat n.toNat)), aI t (b 4) 256 (fil Ce k.toNat 64)]) [0, 1, 2, 3] rfl
                have hD := hD.sub (ws' := [oM y b (((R : Nat) : Int)) (fm) (kn) (pm0) (lm), aI t (b 2) 4 (va_up La k.toNat l0), aI t (b 3) 4 (cN (va_up Sz k.toNat n.toNat)), aI t (b 4) 256 (fil Ce k.toNat 64)]) [0, 1, 2, 3] (by decide) rfl
                exact W.iret (v := (zI (1))) hx hb hr (fun tq ht hW => ⟨⟨_, (va_up La k.toNat l0, va_up Sz k.toNat n.toNat, fil Ce k.toNat 64), rfl, by rw [sp_sheet, if_pos (by omega), if_neg (by omega)]; exact ⟨rfl, rfl⟩, by rw [ht]; exact hP, va_K.moved hW.alike hK, hD⟩, hS.F ht⟩) hS.2.2 dX7_sheet_83
              · refine lv_aload_n hx hb dX7_sheet_63 rfl (lv_at hl 0 rfl) ?_
                refine va_get (D := D) (ci := 6) (v := .ref (b 4)) (C := RX7) (T := TX7) (N := 16) hx hb hts iX7 hown hK hP 0 rfl rfl 5 (by decide) (hts (.fieldLink RX7 23 "CancelRowsModel" "cells" "[I") (by decide +kernel)) (fun _ h9 => h9) rfl dX7_sheet_64 ?_
                refine lv_bipush (v := zI 64) hx hb dX7_sheet_67 (by decide +kernel) ?_
                refine lv_iload_n hx hb dX7_sheet_69 rfl (lv_at hl 1 rfl) ?_
                refine z_imul hx hb dX7_sheet_70 ?_
                refine z_re (e2 := ((64 * k.toNat : Nat) : Int)) (by omega) ?_
                refine lv_iload hx hb dX7_sheet_71 (lv_at hl 2 rfl) ?_
                refine z_iadd hx hb dX7_sheet_73 ?_
                refine z_re (e2 := ((64 * k.toNat + i : Nat) : Int)) (by omega) ?_
                refine lv_iconst (v := zI 0) hx hb dX7_sheet_74 rfl ?_
                refine z_iast hx hb hK hP hD hS 3 0 rfl rfl (64 * k.toNat + i) (by omega) (by omega) (by omega) dX7_sheet_75 (fun H locs hP hD hS => ?_)
                have hP : va_P D vwCl [oM y b (((R : Nat) : Int)) (fm) (kn) (pm0) (lm), aI t (b 2) 4 (va_up La k.toNat l0), aI t (b 3) 4 (cN (va_up Sz k.toNat n.toNat)), aI t (b 4) 256 (va_up (fil Ce k.toNat i) (64 * k.toNat + i) (0))] H := hP
                have hD : va_D AA [oM y b (((R : Nat) : Int)) (fm) (kn) (pm0) (lm), aI t (b 2) 4 (va_up La k.toNat l0), aI t (b 3) 4 (cN (va_up Sz k.toNat n.toNat)), aI t (b 4) 256 (va_up (fil Ce k.toNat i) (64 * k.toNat + i) (0))] := hD
                have hfe : (va_up (fil Ce k.toNat i) (64 * k.toNat + i) (0)) = (fil Ce k.toNat (i + 1)) := fil_s Ce k.toNat i
                rw [hfe] at hP hD
                refine lv_iinc (v := zI (((i + 1 : Nat) : Int))) (lv' := [(4, .int (zI (((i + 1 : Nat) : Int)))), (0, .ref y), (1, .int (zI (k)))]) hx hb dX7_sheet_76 hl (k := 2) rfl (zI_incr (by omega)) (by decide) rfl (fun ls hl => ?_)
                refine lv_goto (tgt := 56) hx hb dX7_sheet_79 (by decide) ?_
                exact ih56 (i + 1) (by omega) (by omega) _ _ hP hD hS _ (lv_sub hl [1, 2, 0] rfl)
          rw [← fil_0 Ce k.toNat] at hP hD
          exact lp56 _ (0) (by omega) (Nat.lt_succ_self _) _ _ hP hD hS _ (lv_sub hl [1, 2, 0] rfl)
        · refine lv_bipush (v := zI (-14)) hx hb dX7_sheet_36 (by decide +kernel) ?_
          exact W.iret (v := (zI ((-14)))) hx hb hr (fun tq ht hW => ⟨⟨_, (La, Sz, Ce), rfl, by rw [sp_sheet, if_pos (by omega), if_pos (by omega)]; exact ⟨rfl, rfl⟩, by rw [ht]; exact hP, va_K.moved hW.alike hK, hD⟩, hS.F ht⟩) hS.2.2 dX7_sheet_38
      · refine lv_iconst (v := zI (-1)) hx hb dX7_sheet_30 rfl ?_
        exact W.iret (v := (zI ((-1)))) hx hb hr (fun tq ht hW => ⟨⟨_, (La, Sz, Ce), rfl, by rw [sp_sheet, if_neg (fun z => by omega)]; exact ⟨rfl, rfl⟩, by rw [ht]; exact hP, va_K.moved hW.alike hK, hD⟩, hS.F ht⟩) hS.2.2 dX7_sheet_31

-- the check: lay
set_option maxHeartbeats 4000000 in
set_option maxRecDepth 100000 in
theorem c_X7_lay (l : Launch) (D : va_G) (t : Nat → ClassId) (sz : Nat) (y : Nat) (b : Nat → Nat) (R : Nat) (fm kn pm0 lm : Int) (La : Nat → Int) (Sz : Nat → Nat) (Ce : Nat → Int) (gS : shOK La Sz Ce) (k i v : Int) (gk : -2147483648 ≤ k ∧ k < 2147483648) (gi : -2147483648 ≤ i ∧ i < 2147483648) (gv : -2147483648 ≤ v ∧ v < 2147483648) : Met l yX7_lay wsX7_lay ({ frames := 1, cells := 0, slots := 0, locals := 25 }) (va_Pc [.ref y, .int (zI (k)), .int (zI (i)), .int (zI (v))] (fun U => U.heap.size = sz ∧ va_P D vwCl ([oM y b (((R : Nat) : Int)) (fm) (kn) (pm0) (lm), aI t (b 2) 4 (La), aI t (b 3) 4 (cN Sz), aI t (b 4) 256 (Ce)]) U.heap ∧ va_K D vwCl (TY t) U ∧ va_D (fun _ => True) ([oM y b (((R : Nat) : Int)) (fm) (kn) (pm0) (lm), aI t (b 2) 4 (La), aI t (b 3) 4 (cN Sz), aI t (b 4) 256 (Ce)]))) (va_Qi (fun r (u : Nat → Int) => r = zI (sp_lay La Sz Ce k i v).1 ∧ u = (sp_lay La Sz Ce k i v).2) (fun (u : Nat → Int) t1 => va_P D vwCl ([oM y b (((R : Nat) : Int)) (fm) (kn) (pm0) (lm), aI t (b 2) 4 (La), aI t (b 3) 4 (cN Sz), aI t (b 4) 256 (u)]) t1.heap ∧ va_K D vwCl (TY t) t1 ∧ va_D (va_A ([oM y b (((R : Nat) : Int)) (fm) (kn) (pm0) (lm), aI t (b 2) 4 (La), aI t (b 3) 4 (cN Sz), aI t (b 4) 256 (Ce)]) sz) ([oM y b (((R : Nat) : Int)) (fm) (kn) (pm0) (lm), aI t (b 2) 4 (La), aI t (b 3) 4 (cN Sz), aI t (b 4) 256 (u)])) (va_A ([oM y b (((R : Nat) : Int)) (fm) (kn) (pm0) (lm), aI t (b 2) 4 (La), aI t (b 3) 4 (cN Sz), aI t (b 4) 256 (Ce)]) sz)) 0 0 (va_A ([oM y b (((R : Nat) : Int)) (fm) (kn) (pm0) (lm), aI t (b 2) 4 (La), aI t (b 3) 4 (cN Sz), aI t (b 4) 256 (Ce)]) sz) := by
  refine Met.ofW (cc := cX7_lay) (maxL := 4) (ret := (some .int)) (by decide) rfl ?_
  intro p e s m args below meth c s₁ B hml hv
  obtain ⟨rfl, hsz, hP, hK, hD0⟩ := hv
  have hx := B.exec
  have hb := B.bytes
  have hr := B.returns
  have hts := atoms_spec (ws := wsX7_lay) B.pre
  have hown : s.vm.findClass RX7 = some m.cls := findClass_of_methodNamed B.named
  have hlocks := B.notSynchronized
  subst hsz
  have hD := hD0.self (sz := s.heap.size)
  generalize hAe : va_A ([oM y b (((R : Nat) : Int)) (fm) (kn) (pm0) (lm), aI t (b 2) 4 (La), aI t (b 3) 4 (cN Sz), aI t (b 4) 256 (Ce)]) s.heap.size = AA at hD ⊢
  have hA : ∀ q : Nat, s.heap.size ≤ q → AA q := fun q h => by rw [← hAe]; exact Or.inr h
  have hS : va_S AA s.heap s.heap [] := va_S.rf
  have hP : va_P D vwCl ([oM y b (((R : Nat) : Int)) (fm) (kn) (pm0) (lm), aI t (b 2) 4 (La), aI t (b 3) 4 (cN Sz), aI t (b 4) 256 (Ce)]) s.heap := hP
  have hl := lv_entry ([.ref y, .int (zI (k)), .int (zI (i)), .int (zI (v))]) (n := 4) (Nat.le_of_ble_eq_true rfl)
  rw [lg_entry_eq]
  generalize (lg_sl ([.ref y, .int (zI (k)), .int (zI (i)), .int (zI (v))]) ++ List.replicate (4 - (lg_sl ([.ref y, .int (zI (k)), .int (zI (i)), .int (zI (v))])).length) Slot.unset).toArray = ls at hl ⊢
  have hl : lv_has ls 4 [(0, .ref y), (1, .int (zI (k))), (2, .int (zI (i))), (3, .int (zI (v)))] := hl
  have iX7 : ∀ w ∈ u_ws RX7 TX7 16, w ∈ wsX7_lay := by decide +kernel
  refine lv_iload_n hx hb dX7_lay_0 rfl (lv_at hl 1 rfl) ?_
  refine z_i2l hx hb (by omega) dX7_lay_1 ?_
  refine lv_lconst (v := lN 0) hx hb dX7_lay_2 rfl ?_
  refine lv_ldc2 (v := lN 3) hx hb hown (hts (.constantLong RX7 62 (lN 3)) (by decide +kernel)) dX7_lay_3 ?_
  refine vp_callSi (va_runS (As := [.long (zL (k)), .long (lN (0)), .long (lN (3))]) (rest := []) ⟨hx, hb, hml, hown, hts⟩ (c_X7_in l _ _ _) (va_cwS 3 hts gX7_lay_X7_in rfl rfl rfl (by decide +kernel) ⟨Nat.le_of_ble_eq_true rfl, Nat.le_of_ble_eq_true rfl⟩) ⟨fun a U g mk q => q, fun U hU hW => ⟨rfl, trivial⟩⟩ rfl rfl hl.1 rfl (lv_room (Nat.le_of_ble_eq_true rfl)) dX7_lay_6 ⟨Nat.le_of_ble_eq_true rfl, Nat.le_of_ble_eq_true rfl⟩).run (fun r hr6 => ?_)
  have hq6 : r = zI (bP (((0 : Nat) : Int) ≤ k ∧ k ≤ ((3 : Nat) : Int))) := by rw [hr6]; exact congrArg zI (bP_cg (by simp only [zL_toInt (e := k) (by omega), lN_toI (n := 0) (by omega), lN_toI (n := 3) (by omega)]))
  obtain rfl := hq6
  refine z_ifb_ne (P := ((0 : Nat) : Int) ≤ k ∧ k ≤ ((3 : Nat) : Int)) (tgt := 14) hx hb dX7_lay_9 (by decide) (fun c9 => ?_) (fun c9 => ?_)
  · have g1 := gS.1 k.toNat (by omega)
    refine lv_aload_n hx hb dX7_lay_14 rfl (lv_at hl 0 rfl) ?_
    refine va_get (D := D) (ci := 6) (v := .ref (b 2)) (C := RX7) (T := TX7) (N := 16) hx hb hts iX7 hown hK hP 0 rfl rfl 3 (by decide) (hts (.fieldLink RX7 17 "CancelRowsModel" "lanes" "[I") (by decide +kernel)) (fun _ h9 => h9) rfl dX7_lay_15 ?_
    refine lv_iload_n hx hb dX7_lay_18 rfl (lv_at hl 1 rfl) ?_
    refine z_iald hx hb hK hP 1 0 rfl rfl (k.toNat) (by omega) (by omega) (by omega) dX7_lay_19 ?_
    refine lv_bipush (v := zI (-4)) hx hb dX7_lay_20 (by decide +kernel) ?_
    refine z_icmp_ne (tgt := 28) hx hb dX7_lay_22 (by decide) (by omega) (by omega) (fun c22 => ?_) (fun c22 => ?_)
    · refine lv_iload_n hx hb dX7_lay_28 rfl (lv_at hl 2 rfl) ?_
      refine z_i2l hx hb (by omega) dX7_lay_29 ?_
      refine lv_lconst (v := lN 0) hx hb dX7_lay_30 rfl ?_
      refine lv_aload_n hx hb dX7_lay_31 rfl (lv_at hl 0 rfl) ?_
      refine va_get (D := D) (ci := 6) (v := .ref (b 3)) (C := RX7) (T := TX7) (N := 16) hx hb hts iX7 hown hK hP 0 rfl rfl 4 (by decide) (hts (.fieldLink RX7 20 "CancelRowsModel" "sizes" "[I") (by decide +kernel)) (fun _ h9 => h9) rfl dX7_lay_32 ?_
      refine lv_iload_n hx hb dX7_lay_35 rfl (lv_at hl 1 rfl) ?_
      refine z_iald hx hb hK hP 2 0 rfl rfl (k.toNat) (by omega) (by omega) (by omega) dX7_lay_36 ?_
      refine z_re (e2 := ((Sz (k.toNat) : Nat) : Int)) (rfl) ?_
      refine lv_iconst (v := zI 1) hx hb dX7_lay_37 rfl ?_
      refine z_isub hx hb dX7_lay_38 ?_
      refine z_i2l hx hb (by omega) dX7_lay_39 ?_
      refine vp_callSi (va_runS (As := [.long (zL (i)), .long (lN (0)), .long (zL ((((Sz (k.toNat) : Nat) : Int)) - (1)))]) (rest := []) ⟨hx, hb, hml, hown, hts⟩ (c_X7_in l _ _ _) (va_cwS 3 hts gX7_lay_X7_in rfl rfl rfl (by decide +kernel) ⟨Nat.le_of_ble_eq_true rfl, Nat.le_of_ble_eq_true rfl⟩) ⟨fun a U g mk q => q, fun U hU hW => ⟨rfl, trivial⟩⟩ rfl rfl hl.1 rfl (lv_room (Nat.le_of_ble_eq_true rfl)) dX7_lay_40 ⟨Nat.le_of_ble_eq_true rfl, Nat.le_of_ble_eq_true rfl⟩).run (fun r hr40 => ?_)
      have hq40 : r = zI (bP (((0 : Nat) : Int) ≤ i ∧ i ≤ (((Sz (k.toNat) : Nat) : Int)) - (1))) := by rw [hr40]; exact congrArg zI (bP_cg (by simp only [zL_toInt (e := i) (by omega), lN_toI (n := 0) (by omega), zL_toInt (e := (((Sz (k.toNat) : Nat) : Int)) - (1)) (by omega)]))
      obtain rfl := hq40
      refine z_ifb_ne (P := ((0 : Nat) : Int) ≤ i ∧ i ≤ (((Sz (k.toNat) : Nat) : Int)) - (1)) (tgt := 49) hx hb dX7_lay_43 (by decide) (fun c43 => ?_) (fun c43 => ?_)
      · refine lv_aload_n hx hb dX7_lay_49 rfl (lv_at hl 0 rfl) ?_
        refine va_get (D := D) (ci := 6) (v := .ref (b 4)) (C := RX7) (T := TX7) (N := 16) hx hb hts iX7 hown hK hP 0 rfl rfl 5 (by decide) (hts (.fieldLink RX7 23 "CancelRowsModel" "cells" "[I") (by decide +kernel)) (fun _ h9 => h9) rfl dX7_lay_50 ?_
        refine lv_bipush (v := zI 64) hx hb dX7_lay_53 (by decide +kernel) ?_
        refine lv_iload_n hx hb dX7_lay_55 rfl (lv_at hl 1 rfl) ?_
        refine z_imul hx hb dX7_lay_56 ?_
        refine z_re (e2 := ((64 * k.toNat : Nat) : Int)) (by omega) ?_
        refine lv_iload_n hx hb dX7_lay_57 rfl (lv_at hl 2 rfl) ?_
        refine z_re (e2 := ((i.toNat : Nat) : Int)) (by omega) ?_
        refine z_iadd hx hb dX7_lay_58 ?_
        refine z_re (e2 := ((64 * k.toNat + i.toNat : Nat) : Int)) (by omega) ?_
        refine lv_aload_n hx hb dX7_lay_59 rfl (lv_at hl 0 rfl) ?_
        refine va_get (D := D) (ci := 6) (v := .ref (b 2)) (C := RX7) (T := TX7) (N := 16) hx hb hts iX7 hown hK hP 0 rfl rfl 3 (by decide) (hts (.fieldLink RX7 17 "CancelRowsModel" "lanes" "[I") (by decide +kernel)) (fun _ h9 => h9) rfl dX7_lay_60 ?_
        refine lv_iload_n hx hb dX7_lay_63 rfl (lv_at hl 1 rfl) ?_
        refine z_iald hx hb hK hP 1 0 rfl rfl (k.toNat) (by omega) (by omega) (by omega) dX7_lay_64 ?_
        refine z_if_ne (tgt := 78) hx hb dX7_lay_65 (by decide) (by omega) (fun c65 => ?_) (fun c65 => ?_)
        · refine lv_aload_n hx hb dX7_lay_78 rfl (lv_at hl 0 rfl) ?_
          refine va_get (D := D) (ci := 6) (v := .ref (b 2)) (C := RX7) (T := TX7) (N := 16) hx hb hts iX7 hown hK hP 0 rfl rfl 3 (by decide) (hts (.fieldLink RX7 17 "CancelRowsModel" "lanes" "[I") (by decide +kernel)) (fun _ h9 => h9) rfl dX7_lay_79 ?_
          refine lv_iload_n hx hb dX7_lay_82 rfl (lv_at hl 1 rfl) ?_
          refine z_iald hx hb hK hP 1 0 rfl rfl (k.toNat) (by omega) (by omega) (by omega) dX7_lay_83 ?_
          refine lv_iconst (v := zI 1) hx hb dX7_lay_84 rfl ?_
          refine z_icmp_ne (tgt := 98) hx hb dX7_lay_85 (by decide) (by omega) (by omega) (fun c85 => ?_) (fun c85 => ?_)
          · refine lv_iload_n hx hb dX7_lay_98 rfl (lv_at hl 3 rfl) ?_
            refine z_re (e2 := cutI (La k.toNat) v) (cut_2 (by omega) (by omega)) ?_
            refine z_iast hx hb hK hP hD hS 3 0 rfl rfl (64 * k.toNat + i.toNat) (by omega) (by omega) (by omega) dX7_lay_99 (fun H locs hP hD hS => ?_)
            have hP : va_P D vwCl [oM y b (((R : Nat) : Int)) (fm) (kn) (pm0) (lm), aI t (b 2) 4 (La), aI t (b 3) 4 (cN Sz), aI t (b 4) 256 (va_up (Ce) (64 * k.toNat + i.toNat) (cutI (La k.toNat) v))] H := hP
            have hD : va_D AA [oM y b (((R : Nat) : Int)) (fm) (kn) (pm0) (lm), aI t (b 2) 4 (La), aI t (b 3) 4 (cN Sz), aI t (b 4) 256 (va_up (Ce) (64 * k.toNat + i.toNat) (cutI (La k.toNat) v))] := hD
            refine lv_iconst (v := zI 1) hx hb dX7_lay_100 rfl ?_
            have hP := hP.sub (ws' := [oM y b (((R : Nat) : Int)) (fm) (kn) (pm0) (lm), aI t (b 2) 4 (La), aI t (b 3) 4 (cN Sz), aI t (b 4) 256 (va_up Ce (64 * k.toNat + i.toNat) (cutI (La k.toNat) v))]) [0, 1, 2, 3] rfl
            have hD := hD.sub (ws' := [oM y b (((R : Nat) : Int)) (fm) (kn) (pm0) (lm), aI t (b 2) 4 (La), aI t (b 3) 4 (cN Sz), aI t (b 4) 256 (va_up Ce (64 * k.toNat + i.toNat) (cutI (La k.toNat) v))]) [0, 1, 2, 3] (by decide) rfl
            exact W.iret (v := (zI (1))) hx hb hr (fun tq ht hW => ⟨⟨_, (va_up Ce (64 * k.toNat + i.toNat) (cutI (La k.toNat) v)), rfl, by rw [sp_lay, if_pos (by omega), if_neg (by omega), if_pos (by omega)]; exact ⟨rfl, rfl⟩, by rw [ht]; exact hP, va_K.moved hW.alike hK, hD⟩, hS.F ht⟩) hS.2.2 dX7_lay_101
          · refine lv_iload_n hx hb dX7_lay_88 rfl (lv_at hl 3 rfl) ?_
            refine lv_bipush (v := zI 16) hx hb dX7_lay_89 (by decide +kernel) ?_
            refine z_ishl hx hb (q := 16) (by omega) dX7_lay_91 ?_
            refine lv_bipush (v := zI 16) hx hb dX7_lay_92 (by decide +kernel) ?_
            refine lv_ishr hx hb dX7_lay_94 ?_
            refine x_re (e2 := zI (cutI (La k.toNat) v)) (by rw [show La k.toNat = 1 by omega]; exact (sh16 v).trans (cut_1 v)) ?_
            refine lv_goto (tgt := 99) hx hb dX7_lay_95 (by decide) ?_
            refine z_iast hx hb hK hP hD hS 3 0 rfl rfl (64 * k.toNat + i.toNat) (by omega) (by omega) (by omega) dX7_lay_99 (fun H locs hP hD hS => ?_)
            have hP : va_P D vwCl [oM y b (((R : Nat) : Int)) (fm) (kn) (pm0) (lm), aI t (b 2) 4 (La), aI t (b 3) 4 (cN Sz), aI t (b 4) 256 (va_up (Ce) (64 * k.toNat + i.toNat) (cutI (La k.toNat) v))] H := hP
            have hD : va_D AA [oM y b (((R : Nat) : Int)) (fm) (kn) (pm0) (lm), aI t (b 2) 4 (La), aI t (b 3) 4 (cN Sz), aI t (b 4) 256 (va_up (Ce) (64 * k.toNat + i.toNat) (cutI (La k.toNat) v))] := hD
            refine lv_iconst (v := zI 1) hx hb dX7_lay_100 rfl ?_
            have hP := hP.sub (ws' := [oM y b (((R : Nat) : Int)) (fm) (kn) (pm0) (lm), aI t (b 2) 4 (La), aI t (b 3) 4 (cN Sz), aI t (b 4) 256 (va_up Ce (64 * k.toNat + i.toNat) (cutI (La k.toNat) v))]) [0, 1, 2, 3] rfl
            have hD := hD.sub (ws' := [oM y b (((R : Nat) : Int)) (fm) (kn) (pm0) (lm), aI t (b 2) 4 (La), aI t (b 3) 4 (cN Sz), aI t (b 4) 256 (va_up Ce (64 * k.toNat + i.toNat) (cutI (La k.toNat) v))]) [0, 1, 2, 3] (by decide) rfl
            exact W.iret (v := (zI (1))) hx hb hr (fun tq ht hW => ⟨⟨_, (va_up Ce (64 * k.toNat + i.toNat) (cutI (La k.toNat) v)), rfl, by rw [sp_lay, if_pos (by omega), if_neg (by omega), if_pos (by omega)]; exact ⟨rfl, rfl⟩, by rw [ht]; exact hP, va_K.moved hW.alike hK, hD⟩, hS.F ht⟩) hS.2.2 dX7_lay_101
        · refine lv_iload_n hx hb dX7_lay_68 rfl (lv_at hl 3 rfl) ?_
          refine lv_bipush (v := zI 24) hx hb dX7_lay_69 (by decide +kernel) ?_
          refine z_ishl hx hb (q := 24) (by omega) dX7_lay_71 ?_
          refine lv_bipush (v := zI 24) hx hb dX7_lay_72 (by decide +kernel) ?_
          refine lv_ishr hx hb dX7_lay_74 ?_
          refine x_re (e2 := zI (cutI (La k.toNat) v)) (by rw [show La k.toNat = 0 by omega]; exact (sh24 v).trans (cut_0 v)) ?_
          refine lv_goto (tgt := 99) hx hb dX7_lay_75 (by decide) ?_
          refine z_iast hx hb hK hP hD hS 3 0 rfl rfl (64 * k.toNat + i.toNat) (by omega) (by omega) (by omega) dX7_lay_99 (fun H locs hP hD hS => ?_)
          have hP : va_P D vwCl [oM y b (((R : Nat) : Int)) (fm) (kn) (pm0) (lm), aI t (b 2) 4 (La), aI t (b 3) 4 (cN Sz), aI t (b 4) 256 (va_up (Ce) (64 * k.toNat + i.toNat) (cutI (La k.toNat) v))] H := hP
          have hD : va_D AA [oM y b (((R : Nat) : Int)) (fm) (kn) (pm0) (lm), aI t (b 2) 4 (La), aI t (b 3) 4 (cN Sz), aI t (b 4) 256 (va_up (Ce) (64 * k.toNat + i.toNat) (cutI (La k.toNat) v))] := hD
          refine lv_iconst (v := zI 1) hx hb dX7_lay_100 rfl ?_
          have hP := hP.sub (ws' := [oM y b (((R : Nat) : Int)) (fm) (kn) (pm0) (lm), aI t (b 2) 4 (La), aI t (b 3) 4 (cN Sz), aI t (b 4) 256 (va_up Ce (64 * k.toNat + i.toNat) (cutI (La k.toNat) v))]) [0, 1, 2, 3] rfl
          have hD := hD.sub (ws' := [oM y b (((R : Nat) : Int)) (fm) (kn) (pm0) (lm), aI t (b 2) 4 (La), aI t (b 3) 4 (cN Sz), aI t (b 4) 256 (va_up Ce (64 * k.toNat + i.toNat) (cutI (La k.toNat) v))]) [0, 1, 2, 3] (by decide) rfl
          exact W.iret (v := (zI (1))) hx hb hr (fun tq ht hW => ⟨⟨_, (va_up Ce (64 * k.toNat + i.toNat) (cutI (La k.toNat) v)), rfl, by rw [sp_lay, if_pos (by omega), if_neg (by omega), if_pos (by omega)]; exact ⟨rfl, rfl⟩, by rw [ht]; exact hP, va_K.moved hW.alike hK, hD⟩, hS.F ht⟩) hS.2.2 dX7_lay_101
      · refine lv_bipush (v := zI (-12)) hx hb dX7_lay_46 (by decide +kernel) ?_
        exact W.iret (v := (zI ((-12)))) hx hb hr (fun tq ht hW => ⟨⟨_, (Ce), rfl, by rw [sp_lay, if_pos (by omega), if_neg (by omega), if_neg (fun z => by omega)]; exact ⟨rfl, rfl⟩, by rw [ht]; exact hP, va_K.moved hW.alike hK, hD⟩, hS.F ht⟩) hS.2.2 dX7_lay_48
    · refine lv_bipush (v := zI (-11)) hx hb dX7_lay_25 (by decide +kernel) ?_
      exact W.iret (v := (zI ((-11)))) hx hb hr (fun tq ht hW => ⟨⟨_, (Ce), rfl, by rw [sp_lay, if_pos (by omega), if_pos (by omega)]; exact ⟨rfl, rfl⟩, by rw [ht]; exact hP, va_K.moved hW.alike hK, hD⟩, hS.F ht⟩) hS.2.2 dX7_lay_27
  · refine lv_iconst (v := zI (-1)) hx hb dX7_lay_12 rfl ?_
    exact W.iret (v := (zI ((-1)))) hx hb hr (fun tq ht hW => ⟨⟨_, (Ce), rfl, by rw [sp_lay, if_neg (fun z => by omega)]; exact ⟨rfl, rfl⟩, by rw [ht]; exact hP, va_K.moved hW.alike hK, hD⟩, hS.F ht⟩) hS.2.2 dX7_lay_13

-- the check: draw
set_option maxHeartbeats 4000000 in
set_option maxRecDepth 100000 in
theorem c_X7_draw (l : Launch) (D : va_G) (t : Nat → ClassId) (sz : Nat) (y : Nat) (b : Nat → Nat) (R : Nat) (fm kn pm0 lm : Int) (F G : Nat → Nat) (gR : R ≤ 24) (La : Nat → Int) (Sz : Nat → Nat) (Ce : Nat → Int) (gS : shOK La Sz Ce) (k l0 f n0 : Int) (gk : -2147483648 ≤ k ∧ k < 2147483648) (gl0 : -2147483648 ≤ l0 ∧ l0 < 2147483648) (gf : -2147483648 ≤ f ∧ f < 2147483648) (gn0 : -2147483648 ≤ n0 ∧ n0 < 2147483648) : Met l yX7_draw wsX7_draw ({ frames := 1, cells := 0, slots := 0, locals := 25 }) (va_Pc [.ref y, .int (zI (k)), .int (zI (l0)), .int (zI (f)), .int (zI (n0))] (fun U => U.heap.size = sz ∧ va_P D vwCl ([oM y b (((R : Nat) : Int)) (fm) (kn) (pm0) (lm), aI t (b 0) 24 (cN F), aJ t (b 1) 24 (G), aI t (b 2) 4 (La), aI t (b 3) 4 (cN Sz), aI t (b 4) 256 (Ce)]) U.heap ∧ va_K D vwCl (TY t) U ∧ va_D (fun _ => True) ([oM y b (((R : Nat) : Int)) (fm) (kn) (pm0) (lm), aI t (b 0) 24 (cN F), aJ t (b 1) 24 (G), aI t (b 2) 4 (La), aI t (b 3) 4 (cN Sz), aI t (b 4) 256 (Ce)]))) (va_Qi (fun r (u : RT) => r = zI (sp_draw R F G La Sz Ce k l0 f n0).1 ∧ u = (sp_draw R F G La Sz Ce k l0 f n0).2) (fun (u : RT) t1 => va_P D vwCl ([oM y b (((u.1 : Nat) : Int)) (fm) (kn) (pm0) (lm), aI t (b 0) 24 (cN (u.2.1)), aJ t (b 1) 24 (u.2.2), aI t (b 2) 4 (La), aI t (b 3) 4 (cN Sz), aI t (b 4) 256 (Ce)]) t1.heap ∧ va_K D vwCl (TY t) t1 ∧ va_D (va_A ([oM y b (((R : Nat) : Int)) (fm) (kn) (pm0) (lm), aI t (b 0) 24 (cN F), aJ t (b 1) 24 (G), aI t (b 2) 4 (La), aI t (b 3) 4 (cN Sz), aI t (b 4) 256 (Ce)]) sz) ([oM y b (((u.1 : Nat) : Int)) (fm) (kn) (pm0) (lm), aI t (b 0) 24 (cN (u.2.1)), aJ t (b 1) 24 (u.2.2), aI t (b 2) 4 (La), aI t (b 3) 4 (cN Sz), aI t (b 4) 256 (Ce)])) (va_A ([oM y b (((R : Nat) : Int)) (fm) (kn) (pm0) (lm), aI t (b 0) 24 (cN F), aJ t (b 1) 24 (G), aI t (b 2) 4 (La), aI t (b 3) 4 (cN Sz), aI t (b 4) 256 (Ce)]) sz)) 0 0 (va_A ([oM y b (((R : Nat) : Int)) (fm) (kn) (pm0) (lm), aI t (b 0) 24 (cN F), aJ t (b 1) 24 (G), aI t (b 2) 4 (La), aI t (b 3) 4 (cN Sz), aI t (b 4) 256 (Ce)]) sz) := by
  refine Met.ofW (cc := cX7_draw) (maxL := 9) (ret := (some .int)) (by decide) rfl ?_
  intro p e s m args below meth c s₁ B hml hv
  obtain ⟨rfl, hsz, hP, hK, hD0⟩ := hv
  have hx := B.exec
  have hb := B.bytes
  have hr := B.returns
  have hts := atoms_spec (ws := wsX7_draw) B.pre
  have hown : s.vm.findClass RX7 = some m.cls := findClass_of_methodNamed B.named
  have hlocks := B.notSynchronized
  subst hsz
  have hD := hD0.self (sz := s.heap.size)
  generalize hAe : va_A ([oM y b (((R : Nat) : Int)) (fm) (kn) (pm0) (lm), aI t (b 0) 24 (cN F), aJ t (b 1) 24 (G), aI t (b 2) 4 (La), aI t (b 3) 4 (cN Sz), aI t (b 4) 256 (Ce)]) s.heap.size = AA at hD ⊢
  have hA : ∀ q : Nat, s.heap.size ≤ q → AA q := fun q h => by rw [← hAe]; exact Or.inr h
  have hS : va_S AA s.heap s.heap [] := va_S.rf
  have hP : va_P D vwCl ([oM y b (((R : Nat) : Int)) (fm) (kn) (pm0) (lm), aI t (b 0) 24 (cN F), aJ t (b 1) 24 (G), aI t (b 2) 4 (La), aI t (b 3) 4 (cN Sz), aI t (b 4) 256 (Ce)]) s.heap := hP
  have hl := lv_entry ([.ref y, .int (zI (k)), .int (zI (l0)), .int (zI (f)), .int (zI (n0))]) (n := 9) (Nat.le_of_ble_eq_true rfl)
  rw [lg_entry_eq]
  generalize (lg_sl ([.ref y, .int (zI (k)), .int (zI (l0)), .int (zI (f)), .int (zI (n0))]) ++ List.replicate (9 - (lg_sl ([.ref y, .int (zI (k)), .int (zI (l0)), .int (zI (f)), .int (zI (n0))])).length) Slot.unset).toArray = ls at hl ⊢
  have hl : lv_has ls 9 [(0, .ref y), (1, .int (zI (k))), (2, .int (zI (l0))), (3, .int (zI (f))), (4, .int (zI (n0)))] := hl
  have iX7 : ∀ w ∈ u_ws RX7 TX7 16, w ∈ wsX7_draw := by decide +kernel
  refine lv_iload_n hx hb dX7_draw_0 rfl (lv_at hl 1 rfl) ?_
  refine z_i2l hx hb (by omega) dX7_draw_1 ?_
  refine lv_lconst (v := lN 0) hx hb dX7_draw_2 rfl ?_
  refine lv_ldc2 (v := lN 3) hx hb hown (hts (.constantLong RX7 62 (lN 3)) (by decide +kernel)) dX7_draw_3 ?_
  refine vp_callSi (va_runS (As := [.long (zL (k)), .long (lN (0)), .long (lN (3))]) (rest := []) ⟨hx, hb, hml, hown, hts⟩ (c_X7_in l _ _ _) (va_cwS 3 hts gX7_draw_X7_in rfl rfl rfl (by decide +kernel) ⟨Nat.le_of_ble_eq_true rfl, Nat.le_of_ble_eq_true rfl⟩) ⟨fun a U g mk q => q, fun U hU hW => ⟨rfl, trivial⟩⟩ rfl rfl hl.1 rfl (lv_room (Nat.le_of_ble_eq_true rfl)) dX7_draw_6 ⟨Nat.le_of_ble_eq_true rfl, Nat.le_of_ble_eq_true rfl⟩).run (fun r hr6 => ?_)
  have hq6 : r = zI (bP (((0 : Nat) : Int) ≤ k ∧ k ≤ ((3 : Nat) : Int))) := by rw [hr6]; exact congrArg zI (bP_cg (by simp only [zL_toInt (e := k) (by omega), lN_toI (n := 0) (by omega), lN_toI (n := 3) (by omega)]))
  obtain rfl := hq6
  refine z_ifb_eq (P := ((0 : Nat) : Int) ≤ k ∧ k ≤ ((3 : Nat) : Int)) (tgt := 37) hx hb dX7_draw_9 (by decide) (fun c9 => ?_) (fun c9 => ?_)
  · refine lv_iconst (v := zI (-1)) hx hb dX7_draw_37 rfl ?_
    have hP := hP.sub (ws' := [oM y b (((R : Nat) : Int)) (fm) (kn) (pm0) (lm), aI t (b 0) 24 (cN (F)), aJ t (b 1) 24 (G), aI t (b 2) 4 (La), aI t (b 3) 4 (cN Sz), aI t (b 4) 256 (Ce)]) [0, 1, 2, 3, 4, 5] rfl
    have hD := hD.sub (ws' := [oM y b (((R : Nat) : Int)) (fm) (kn) (pm0) (lm), aI t (b 0) 24 (cN (F)), aJ t (b 1) 24 (G), aI t (b 2) 4 (La), aI t (b 3) 4 (cN Sz), aI t (b 4) 256 (Ce)]) [0, 1, 2, 3, 4, 5] (by decide) rfl
    exact W.iret (v := (zI ((-1)))) hx hb hr (fun tq ht hW => ⟨⟨_, (R, F, G), rfl, by rw [sp_draw, if_neg (fun z => by omega)]; exact ⟨rfl, rfl⟩, by rw [ht]; exact hP, va_K.moved hW.alike hK, hD⟩, hS.F ht⟩) hS.2.2 dX7_draw_38
  · refine lv_iload_n hx hb dX7_draw_12 rfl (lv_at hl 2 rfl) ?_
    refine z_i2l hx hb (by omega) dX7_draw_13 ?_
    refine lv_lconst (v := lN 0) hx hb dX7_draw_14 rfl ?_
    refine lv_ldc2 (v := lN 2) hx hb hown (hts (.constantLong RX7 64 (lN 2)) (by decide +kernel)) dX7_draw_15 ?_
    refine vp_callSi (va_runS (As := [.long (zL (l0)), .long (lN (0)), .long (lN (2))]) (rest := []) ⟨hx, hb, hml, hown, hts⟩ (c_X7_in l _ _ _) (va_cwS 3 hts gX7_draw_X7_in rfl rfl rfl (by decide +kernel) ⟨Nat.le_of_ble_eq_true rfl, Nat.le_of_ble_eq_true rfl⟩) ⟨fun a U g mk q => q, fun U hU hW => ⟨rfl, trivial⟩⟩ rfl rfl hl.1 rfl (lv_room (Nat.le_of_ble_eq_true rfl)) dX7_draw_18 ⟨Nat.le_of_ble_eq_true rfl, Nat.le_of_ble_eq_true rfl⟩).run (fun r hr18 => ?_)
    have hq18 : r = zI (bP (((0 : Nat) : Int) ≤ l0 ∧ l0 ≤ ((2 : Nat) : Int))) := by rw [hr18]; exact congrArg zI (bP_cg (by simp only [zL_toInt (e := l0) (by omega), lN_toI (n := 0) (by omega), lN_toI (n := 2) (by omega)]))
    obtain rfl := hq18
    refine z_ifb_eq (P := ((0 : Nat) : Int) ≤ l0 ∧ l0 ≤ ((2 : Nat) : Int)) (tgt := 37) hx hb dX7_draw_21 (by decide) (fun c21 => ?_) (fun c21 => ?_)
    · refine lv_iconst (v := zI (-1)) hx hb dX7_draw_37 rfl ?_
      have hP := hP.sub (ws' := [oM y b (((R : Nat) : Int)) (fm) (kn) (pm0) (lm), aI t (b 0) 24 (cN (F)), aJ t (b 1) 24 (G), aI t (b 2) 4 (La), aI t (b 3) 4 (cN Sz), aI t (b 4) 256 (Ce)]) [0, 1, 2, 3, 4, 5] rfl
      have hD := hD.sub (ws' := [oM y b (((R : Nat) : Int)) (fm) (kn) (pm0) (lm), aI t (b 0) 24 (cN (F)), aJ t (b 1) 24 (G), aI t (b 2) 4 (La), aI t (b 3) 4 (cN Sz), aI t (b 4) 256 (Ce)]) [0, 1, 2, 3, 4, 5] (by decide) rfl
      exact W.iret (v := (zI ((-1)))) hx hb hr (fun tq ht hW => ⟨⟨_, (R, F, G), rfl, by rw [sp_draw, if_neg (fun z => by omega)]; exact ⟨rfl, rfl⟩, by rw [ht]; exact hP, va_K.moved hW.alike hK, hD⟩, hS.F ht⟩) hS.2.2 dX7_draw_38
    · refine lv_iload hx hb dX7_draw_24 (lv_at hl 4 rfl) ?_
      refine z_i2l hx hb (by omega) dX7_draw_26 ?_
      refine lv_lconst (v := lN 1) hx hb dX7_draw_27 rfl ?_
      refine lv_ldc2 (v := lN 32) hx hb hown (hts (.constantLong RX7 56 (lN 32)) (by decide +kernel)) dX7_draw_28 ?_
      refine vp_callSi (va_runS (As := [.long (zL (n0)), .long (lN (1)), .long (lN (32))]) (rest := []) ⟨hx, hb, hml, hown, hts⟩ (c_X7_in l _ _ _) (va_cwS 3 hts gX7_draw_X7_in rfl rfl rfl (by decide +kernel) ⟨Nat.le_of_ble_eq_true rfl, Nat.le_of_ble_eq_true rfl⟩) ⟨fun a U g mk q => q, fun U hU hW => ⟨rfl, trivial⟩⟩ rfl rfl hl.1 rfl (lv_room (Nat.le_of_ble_eq_true rfl)) dX7_draw_31 ⟨Nat.le_of_ble_eq_true rfl, Nat.le_of_ble_eq_true rfl⟩).run (fun r hr31 => ?_)
      have hq31 : r = zI (bP (((1 : Nat) : Int) ≤ n0 ∧ n0 ≤ ((32 : Nat) : Int))) := by rw [hr31]; exact congrArg zI (bP_cg (by simp only [zL_toInt (e := n0) (by omega), lN_toI (n := 1) (by omega), lN_toI (n := 32) (by omega)]))
      obtain rfl := hq31
      refine z_ifb_ne (P := ((1 : Nat) : Int) ≤ n0 ∧ n0 ≤ ((32 : Nat) : Int)) (tgt := 39) hx hb dX7_draw_34 (by decide) (fun c34 => ?_) (fun c34 => ?_)
      · have g1 := gS.1 k.toNat (by omega)
        refine lv_aload_n hx hb dX7_draw_39 rfl (lv_at hl 0 rfl) ?_
        refine va_get (D := D) (ci := 6) (v := .ref (b 2)) (C := RX7) (T := TX7) (N := 16) hx hb hts iX7 hown hK hP 0 rfl rfl 3 (by decide) (hts (.fieldLink RX7 17 "CancelRowsModel" "lanes" "[I") (by decide +kernel)) (fun _ h9 => h9) rfl dX7_draw_40 ?_
        refine lv_iload_n hx hb dX7_draw_43 rfl (lv_at hl 1 rfl) ?_
        refine z_iald hx hb hK hP 3 0 rfl rfl (k.toNat) (by omega) (by omega) (by omega) dX7_draw_44 ?_
        refine lv_iload_n hx hb dX7_draw_45 rfl (lv_at hl 2 rfl) ?_
        refine z_icmp_eq (tgt := 68) hx hb dX7_draw_46 (by decide) (by omega) (by omega) (fun c46 => ?_) (fun c46 => ?_)
        · refine lv_lconst (v := lN 0) hx hb dX7_draw_68 rfl ?_
          refine n_re (e2 := ob (drB (sht Ce k.toNat) f) 0) (rfl) ?_
          refine lv_lstore (lv' := [(5, .long (lN (ob (drB (sht Ce k.toNat) f) 0))), (0, .ref y), (1, .int (zI (k))), (2, .int (zI (l0))), (3, .int (zI (f))), (4, .int (zI (n0)))]) hx hb dX7_draw_69 hl (by decide) rfl (fun ls hl => ?_)
          refine lv_iconst (v := zI 0) hx hb dX7_draw_71 rfl ?_
          refine z_re (e2 := ((0 : Nat) : Int)) (rfl) ?_
          refine lv_istore (lv' := [(7, .int (zI (((0 : Nat) : Int)))), (5, .long (lN (ob (drB (sht Ce k.toNat) f) 0))), (0, .ref y), (1, .int (zI (k))), (2, .int (zI (l0))), (3, .int (zI (f))), (4, .int (zI (n0)))]) hx hb dX7_draw_72 hl (by decide) rfl (fun ls hl => ?_)
          have lp74 : ∀ (NN : Nat) (i : Nat) (q1 : i ≤ n0.toNat) (q2 : dr (sht Ce k.toNat) (Sz k.toNat) f n0.toNat 0 = dr (sht Ce k.toNat) (Sz k.toNat) f (n0.toNat - i) i), n0.toNat - i < NN → ∀ (H : Heap) (locs : List Loc), va_P D vwCl [oM y b (((R : Nat) : Int)) (fm) (kn) (pm0) (lm), aI t (b 0) 24 (cN F), aJ t (b 1) 24 (G), aI t (b 2) 4 (La), aI t (b 3) 4 (cN Sz), aI t (b 4) 256 (Ce)] H → va_D AA [oM y b (((R : Nat) : Int)) (fm) (kn) (pm0) (lm), aI t (b 0) 24 (cN F), aJ t (b 1) 24 (G), aI t (b 2) 4 (La), aI t (b 3) 4 (cN Sz), aI t (b 4) 256 (Ce)] → va_S AA s.heap H locs → ∀ (ls : Array Slot), lv_has ls 9 [(0, .ref y), (1, .int (zI (k))), (2, .int (zI (l0))), (3, .int (zI (f))), (4, .int (zI (n0))), (5, .long (lN (ob (drB (sht Ce k.toNat) f) i))), (7, .int (zI (i)))] → W p l e (headSpec wsX7_draw ({ frames := 1, cells := 0, slots := 0, locals := 25 })).room s m ([.ref y, .int (zI (k)), .int (zI (l0)), .int (zI (f)), .int (zI (n0))] : List Value).toArray below meth c H locs 0 0 (MQ below (va_Qi (fun r (u : RT) => r = zI (sp_draw R F G La Sz Ce k l0 f n0).1 ∧ u = (sp_draw R F G La Sz Ce k l0 f n0).2) (fun (u : RT) t1 => va_P D vwCl ([oM y b (((u.1 : Nat) : Int)) (fm) (kn) (pm0) (lm), aI t (b 0) 24 (cN (u.2.1)), aJ t (b 1) 24 (u.2.2), aI t (b 2) 4 (La), aI t (b 3) 4 (cN Sz), aI t (b 4) 256 (Ce)]) t1.heap ∧ va_K D vwCl (TY t) t1 ∧ va_D (AA) ([oM y b (((u.1 : Nat) : Int)) (fm) (kn) (pm0) (lm), aI t (b 0) 24 (cN (u.2.1)), aJ t (b 1) 24 (u.2.2), aI t (b 2) 4 (La), aI t (b 3) 4 (cN Sz), aI t (b 4) 256 (Ce)])) (AA)) ([.ref y, .int (zI (k)), .int (zI (l0)), .int (zI (f)), .int (zI (n0))] : List Value).toArray s 0 0 (AA)) (F0 m 74 ls []) := by
            intro NN
            induction NN with
            | zero =>
              intro i q1 q2 hmu
              exact absurd hmu (Nat.not_lt_zero _)
            | succ NN ih74 =>
              intro i q1 q2 hmu H locs hP hD hS ls hl
              have b1 := gS.2 (64 * k.toNat + (f + (i : Int)).toNat)
              have he : sht Ce k.toNat (f + (i : Int)).toNat = Ce (64 * k.toNat + (f + (i : Int)).toNat) := rfl
              refine lv_iload hx hb dX7_draw_74 (lv_at hl 6 rfl) ?_
              refine lv_iload hx hb dX7_draw_76 (lv_at hl 4 rfl) ?_
              refine z_icmp_ge (tgt := 164) hx hb dX7_draw_78 (by decide) (by omega) (by omega) (fun c78 => ?_) (fun c78 => ?_)
              · have hz : dr (sht Ce k.toNat) (Sz k.toNat) f n0.toNat 0 = 0 := by rw [q2]; exact dr_e _ _ f (by omega)
                have hi : i = n0.toNat := by omega
                refine lv_aload_n hx hb dX7_draw_164 rfl (lv_at hl 0 rfl) ?_
                refine va_get (D := D) (ci := 6) (v := .int (zI (((R : Nat) : Int)))) (C := RX7) (T := TX7) (N := 16) hx hb hts iX7 hown hK hP 0 rfl rfl 0 (by decide) (hts (.fieldLink RX7 49 "CancelRowsModel" "many" "I") (by decide +kernel)) (fun _ h9 => h9) rfl dX7_draw_165 ?_
                refine lv_bipush (v := zI 24) hx hb dX7_draw_168 (by decide +kernel) ?_
                refine z_icmp_ne (tgt := 178) hx hb dX7_draw_170 (by decide) (by omega) (by omega) (fun c170 => ?_) (fun c170 => ?_)
                · refine lv_aload_n hx hb dX7_draw_178 rfl (lv_at hl 0 rfl) ?_
                  refine lv_iload hx hb dX7_draw_179 (lv_at hl 4 rfl) ?_
                  refine z_re (e2 := ((n0.toNat : Nat) : Int)) (by omega) ?_
                  refine lv_lload hx hb dX7_draw_181 (lv_at hl 5 rfl) ?_
                  refine n_re (e2 := ob (drB (sht Ce k.toNat) f) n0.toNat) (by rw [hi]) ?_
                  have hPc := hP.sub (ws' := [oM y b (((R : Nat) : Int)) (fm) (kn) (pm0) (lm), aI t (b 0) 24 (cN F), aJ t (b 1) 24 (G)]) [0, 1, 2] rfl
                  have hDc := hD.sub (ws' := [oM y b (((R : Nat) : Int)) (fm) (kn) (pm0) (lm), aI t (b 0) 24 (cN F), aJ t (b 1) 24 (G)]) [0, 1, 2] (by decide) rfl
                  have hFc := va_free (wc := [oM y b (((R : Nat) : Int)) (fm) (kn) (pm0) (lm), aI t (b 0) 24 (cN F), aJ t (b 1) 24 (G)]) hD hS hA [0, 1, 2] rfl
                  refine va_calli (va_runV (As := [.int (zI (((n0.toNat : Nat) : Int))), .long (lN (ob (drB (sht Ce k.toNat) f) n0.toNat))]) (rest := []) ⟨hx, hb, hml, hown, hts⟩ (c_X7_added l D t H.size y b (R) fm kn pm0 lm (F) (G) (by omega) (n0.toNat) (ob (drB (sht Ce k.toNat) f) n0.toNat) (by omega)) (cwV 2 hts gX7_draw_X7_added rfl rfl rfl (by decide +kernel) ⟨Nat.le_of_ble_eq_true rfl, Nat.le_of_ble_eq_true rfl⟩) ⟨fun a U g mk q => by obtain ⟨q0, q1, qP, qK, qD⟩ := q; exact ⟨q0, q1, qP, va_K.moved (u := U) (U := U.calling g mk a) (Vm.Alike.refl U.vm) qK, qD⟩, va_recv hK hPc (ci := 6) (q0 := 0) rfl rfl, fun U hU hW => ⟨rfl, by rw [hU], by rw [hU]; exact hPc, va_K.moved hW.alike hK, hDc.weaken (fun _ _ _ _ => trivial)⟩⟩ rfl rfl hl.1 rfl (lv_room (Nat.le_of_ble_eq_true rfl)) dX7_draw_183 ⟨Nat.le_of_ble_eq_true rfl, Nat.le_of_ble_eq_true rfl⟩) hS (fun q _ h => hFc q h) hFc (fun r u tq H1 locs ht hvm hr183 hB hz1 hk1 hS => ?_)
                  obtain ⟨R2, F2, G2⟩ := u
                  obtain ⟨hP1, hK1, hD1⟩ := hB
                  rw [ht] at hP1
                  obtain ⟨hP, hD⟩ := va_join (wr := [aI t (b 2) 4 (La), aI t (b 3) 4 (cN Sz), aI t (b 4) 256 (Ce)]) (w1 := [oM y b (((R2 : Nat) : Int)) (fm) (kn) (pm0) (lm), aI t (b 0) 24 (cN (F2)), aJ t (b 1) 24 (G2)]) hP hD [0, 1, 2] [3, 4, 5] rfl rfl (by decide) (by decide) hk1 hFc hP1 hD1
                  generalize H1 = H at hP hS ⊢
                  have hP : va_P D vwCl [aI t (b 2) 4 (La), aI t (b 3) 4 (cN Sz), aI t (b 4) 256 (Ce), oM y b (((R2 : Nat) : Int)) (fm) (kn) (pm0) (lm), aI t (b 0) 24 (cN (F2)), aJ t (b 1) 24 (G2)] H := hP
                  have hD : va_D AA [aI t (b 2) 4 (La), aI t (b 3) 4 (cN Sz), aI t (b 4) 256 (Ce), oM y b (((R2 : Nat) : Int)) (fm) (kn) (pm0) (lm), aI t (b 0) 24 (cN (F2)), aJ t (b 1) 24 (G2)] := hD
                  obtain ⟨rfl, hu⟩ := hr183
                  obtain ⟨rfl, rfl, rfl⟩ : R2 = R + 1 ∧ F2 = va_up (F) (R) (n0.toNat) ∧ G2 = va_up (G) (R) (ob (drB (sht Ce k.toNat) f) n0.toNat) := ⟨congrArg (·.1) hu, congrArg (·.2.1) hu, congrArg (·.2.2) hu⟩
                  have hP := hP.sub (ws' := [oM y b (((R + 1 : Nat) : Int)) (fm) (kn) (pm0) (lm), aI t (b 0) 24 (cN (va_up F R (n0.toNat))), aJ t (b 1) 24 (va_up G R (ob (drB (sht Ce k.toNat) f) n0.toNat)), aI t (b 2) 4 (La), aI t (b 3) 4 (cN Sz), aI t (b 4) 256 (Ce)]) [3, 4, 5, 0, 1, 2] rfl
                  have hD := hD.sub (ws' := [oM y b (((R + 1 : Nat) : Int)) (fm) (kn) (pm0) (lm), aI t (b 0) 24 (cN (va_up F R (n0.toNat))), aJ t (b 1) 24 (va_up G R (ob (drB (sht Ce k.toNat) f) n0.toNat)), aI t (b 2) 4 (La), aI t (b 3) 4 (cN Sz), aI t (b 4) 256 (Ce)]) [3, 4, 5, 0, 1, 2] (by decide) rfl
                  exact W.iret (v := (zI (((R : Nat) : Int)))) hx hb hr (fun tq ht hW => ⟨⟨_, (R + 1, va_up F R (n0.toNat), va_up G R (ob (drB (sht Ce k.toNat) f) n0.toNat)), rfl, by rw [sp_draw, if_pos (by omega), if_neg (by omega), if_neg (by omega), if_pos hz, sp_add_y (by omega)]; exact ⟨rfl, rfl⟩, by rw [ht]; exact hP, va_K.moved hW.alike hK, hD⟩, hS.F ht⟩) hS.2.2 dX7_draw_186
                · refine lv_bipush (v := zI (-3)) hx hb dX7_draw_173 (by decide +kernel) ?_
                  refine lv_goto (tgt := 186) hx hb dX7_draw_175 (by decide) ?_
                  have hP := hP.sub (ws' := [oM y b (((R : Nat) : Int)) (fm) (kn) (pm0) (lm), aI t (b 0) 24 (cN (F)), aJ t (b 1) 24 (G), aI t (b 2) 4 (La), aI t (b 3) 4 (cN Sz), aI t (b 4) 256 (Ce)]) [0, 1, 2, 3, 4, 5] rfl
                  have hD := hD.sub (ws' := [oM y b (((R : Nat) : Int)) (fm) (kn) (pm0) (lm), aI t (b 0) 24 (cN (F)), aJ t (b 1) 24 (G), aI t (b 2) 4 (La), aI t (b 3) 4 (cN Sz), aI t (b 4) 256 (Ce)]) [0, 1, 2, 3, 4, 5] (by decide) rfl
                  exact W.iret (v := (zI ((-3)))) hx hb hr (fun tq ht hW => ⟨⟨_, (R, F, G), rfl, by rw [sp_draw, if_pos (by omega), if_neg (by omega), if_neg (by omega), if_pos hz, sp_add_n (by omega)]; exact ⟨rfl, rfl⟩, by rw [ht]; exact hP, va_K.moved hW.alike hK, hD⟩, hS.F ht⟩) hS.2.2 dX7_draw_186
              · refine lv_iload_n hx hb dX7_draw_81 rfl (lv_at hl 3 rfl) ?_
                refine z_i2l hx hb (by omega) dX7_draw_82 ?_
                refine lv_iload hx hb dX7_draw_83 (lv_at hl 6 rfl) ?_
                refine z_i2l hx hb (by omega) dX7_draw_85 ?_
                refine z_ladd hx hb dX7_draw_86 ?_
                refine lv_lconst (v := lN 0) hx hb dX7_draw_87 rfl ?_
                refine lv_aload_n hx hb dX7_draw_88 rfl (lv_at hl 0 rfl) ?_
                refine va_get (D := D) (ci := 6) (v := .ref (b 3)) (C := RX7) (T := TX7) (N := 16) hx hb hts iX7 hown hK hP 0 rfl rfl 4 (by decide) (hts (.fieldLink RX7 20 "CancelRowsModel" "sizes" "[I") (by decide +kernel)) (fun _ h9 => h9) rfl dX7_draw_89 ?_
                refine lv_iload_n hx hb dX7_draw_92 rfl (lv_at hl 1 rfl) ?_
                refine z_iald hx hb hK hP 4 0 rfl rfl (k.toNat) (by omega) (by omega) (by omega) dX7_draw_93 ?_
                refine z_re (e2 := ((Sz (k.toNat) : Nat) : Int)) (rfl) ?_
                refine lv_iconst (v := zI 1) hx hb dX7_draw_94 rfl ?_
                refine z_isub hx hb dX7_draw_95 ?_
                refine z_i2l hx hb (by omega) dX7_draw_96 ?_
                refine vp_callSi (va_runS (As := [.long (zL ((f) + (i))), .long (lN (0)), .long (zL ((((Sz (k.toNat) : Nat) : Int)) - (1)))]) (rest := []) ⟨hx, hb, hml, hown, hts⟩ (c_X7_in l _ _ _) (va_cwS 3 hts gX7_draw_X7_in rfl rfl rfl (by decide +kernel) ⟨Nat.le_of_ble_eq_true rfl, Nat.le_of_ble_eq_true rfl⟩) ⟨fun a U g mk q => q, fun U hU hW => ⟨rfl, trivial⟩⟩ rfl rfl hl.1 rfl (lv_room (Nat.le_of_ble_eq_true rfl)) dX7_draw_97 ⟨Nat.le_of_ble_eq_true rfl, Nat.le_of_ble_eq_true rfl⟩).run (fun r hr97 => ?_)
                have hq97 : r = zI (bP (((0 : Nat) : Int) ≤ (f) + (i) ∧ (f) + (i) ≤ (((Sz (k.toNat) : Nat) : Int)) - (1))) := by rw [hr97]; exact congrArg zI (bP_cg (by simp only [zL_toInt (e := (f) + (i)) (by omega), lN_toI (n := 0) (by omega), zL_toInt (e := (((Sz (k.toNat) : Nat) : Int)) - (1)) (by omega)]))
                obtain rfl := hq97
                refine z_ifb_ne (P := ((0 : Nat) : Int) ≤ (f) + (i) ∧ (f) + (i) ≤ (((Sz (k.toNat) : Nat) : Int)) - (1)) (tgt := 106) hx hb dX7_draw_100 (by decide) (fun c100 => ?_) (fun c100 => ?_)
                · refine lv_aload_n hx hb dX7_draw_106 rfl (lv_at hl 0 rfl) ?_
                  refine va_get (D := D) (ci := 6) (v := .ref (b 4)) (C := RX7) (T := TX7) (N := 16) hx hb hts iX7 hown hK hP 0 rfl rfl 5 (by decide) (hts (.fieldLink RX7 23 "CancelRowsModel" "cells" "[I") (by decide +kernel)) (fun _ h9 => h9) rfl dX7_draw_107 ?_
                  refine lv_bipush (v := zI 64) hx hb dX7_draw_110 (by decide +kernel) ?_
                  refine lv_iload_n hx hb dX7_draw_112 rfl (lv_at hl 1 rfl) ?_
                  refine z_imul hx hb dX7_draw_113 ?_
                  refine lv_iload_n hx hb dX7_draw_114 rfl (lv_at hl 3 rfl) ?_
                  refine z_iadd hx hb dX7_draw_115 ?_
                  refine lv_iload hx hb dX7_draw_116 (lv_at hl 6 rfl) ?_
                  refine z_iadd hx hb dX7_draw_118 ?_
                  refine z_re (e2 := ((64 * k.toNat + (f + (i : Int)).toNat : Nat) : Int)) (by omega) ?_
                  refine z_iald hx hb hK hP 5 0 rfl rfl (64 * k.toNat + (f + (i : Int)).toNat) (by omega) (by omega) (by omega) dX7_draw_119 ?_
                  refine z_re (e2 := Ce (64 * k.toNat + (f + (i : Int)).toNat)) (rfl) ?_
                  refine lv_istore (lv' := [(8, .int (zI (Ce (64 * k.toNat + (f + (i : Int)).toNat)))), (0, .ref y), (1, .int (zI (k))), (2, .int (zI (l0))), (3, .int (zI (f))), (4, .int (zI (n0))), (5, .long (lN (ob (drB (sht Ce k.toNat) f) i))), (7, .int (zI (i)))]) hx hb dX7_draw_120 hl (by decide) rfl (fun ls hl => ?_)
                  refine lv_iload hx hb dX7_draw_122 (lv_at hl 0 rfl) ?_
                  refine lv_iconst (v := zI 1) hx hb dX7_draw_124 rfl ?_
                  refine z_icmp_eq (tgt := 140) hx hb dX7_draw_125 (by decide) (by omega) (by omega) (fun c125 => ?_) (fun c125 => ?_)
                  · refine lv_lload hx hb dX7_draw_140 (lv_at hl 6 rfl) ?_
                    refine lv_iload hx hb dX7_draw_142 (lv_at hl 0 rfl) ?_
                    refine z_if_ge (tgt := 154) hx hb dX7_draw_144 (by decide) (by omega) (fun c144 => ?_) (fun c144 => ?_)
                    · refine lv_lconst (v := lN 0) hx hb dX7_draw_154 rfl ?_
                      refine n_lor hx hb dX7_draw_155 ?_
                      refine n_re (e2 := ob (drB (sht Ce k.toNat) f) (i + 1)) (dr_0 (by rw [he]; exact c144)) ?_
                      refine lv_lstore (lv' := [(5, .long (lN (ob (drB (sht Ce k.toNat) f) (i + 1)))), (8, .int (zI (Ce (64 * k.toNat + (f + (i : Int)).toNat)))), (0, .ref y), (1, .int (zI (k))), (2, .int (zI (l0))), (3, .int (zI (f))), (4, .int (zI (n0))), (7, .int (zI (i)))]) hx hb dX7_draw_156 hl (by decide) rfl (fun ls hl => ?_)
                      refine lv_iinc (v := zI (((i + 1 : Nat) : Int))) (lv' := [(7, .int (zI (((i + 1 : Nat) : Int)))), (5, .long (lN (ob (drB (sht Ce k.toNat) f) (i + 1)))), (8, .int (zI (Ce (64 * k.toNat + (f + (i : Int)).toNat)))), (0, .ref y), (1, .int (zI (k))), (2, .int (zI (l0))), (3, .int (zI (f))), (4, .int (zI (n0)))]) hx hb dX7_draw_158 hl (k := 7) rfl (zI_incr (by omega)) (by decide) rfl (fun ls hl => ?_)
                      refine lv_goto (tgt := 74) hx hb dX7_draw_161 (by decide) ?_
                      exact ih74 (i + 1) (by omega) (by rw [q2, dr_s _ _ f (by omega), if_neg (fun z => z (by omega)), if_neg (fun z => by have y1 := z.1; have y2 := z.2; rw [he] at y1 y2; omega)]) (by omega) _ _ hP hD hS _ (lv_sub hl [3, 4, 5, 6, 7, 1, 0] rfl)
                    · refine lv_lconst (v := lN 1) hx hb dX7_draw_147 rfl ?_
                      refine lv_iload hx hb dX7_draw_148 (lv_at hl 7 rfl) ?_
                      refine n_lshl hx hb (q := i) (by omega) dX7_draw_150 ?_
                      refine lv_goto (tgt := 155) hx hb dX7_draw_151 (by decide) ?_
                      refine n_lor hx hb dX7_draw_155 ?_
                      refine n_re (e2 := ob (drB (sht Ce k.toNat) f) (i + 1)) (dr_1 (by rw [he]; exact c144)) ?_
                      refine lv_lstore (lv' := [(5, .long (lN (ob (drB (sht Ce k.toNat) f) (i + 1)))), (8, .int (zI (Ce (64 * k.toNat + (f + (i : Int)).toNat)))), (0, .ref y), (1, .int (zI (k))), (2, .int (zI (l0))), (3, .int (zI (f))), (4, .int (zI (n0))), (7, .int (zI (i)))]) hx hb dX7_draw_156 hl (by decide) rfl (fun ls hl => ?_)
                      refine lv_iinc (v := zI (((i + 1 : Nat) : Int))) (lv' := [(7, .int (zI (((i + 1 : Nat) : Int)))), (5, .long (lN (ob (drB (sht Ce k.toNat) f) (i + 1)))), (8, .int (zI (Ce (64 * k.toNat + (f + (i : Int)).toNat)))), (0, .ref y), (1, .int (zI (k))), (2, .int (zI (l0))), (3, .int (zI (f))), (4, .int (zI (n0)))]) hx hb dX7_draw_158 hl (k := 7) rfl (zI_incr (by omega)) (by decide) rfl (fun ls hl => ?_)
                      refine lv_goto (tgt := 74) hx hb dX7_draw_161 (by decide) ?_
                      exact ih74 (i + 1) (by omega) (by rw [q2, dr_s _ _ f (by omega), if_neg (fun z => z (by omega)), if_neg (fun z => by have y1 := z.1; have y2 := z.2; rw [he] at y1 y2; omega)]) (by omega) _ _ hP hD hS _ (lv_sub hl [3, 4, 5, 6, 7, 1, 0] rfl)
                  · refine lv_iload hx hb dX7_draw_128 (lv_at hl 0 rfl) ?_
                    refine lv_iconst (v := zI (-1)) hx hb dX7_draw_130 rfl ?_
                    refine z_icmp_eq (tgt := 140) hx hb dX7_draw_131 (by decide) (by omega) (by omega) (fun c131 => ?_) (fun c131 => ?_)
                    · refine lv_lload hx hb dX7_draw_140 (lv_at hl 6 rfl) ?_
                      refine lv_iload hx hb dX7_draw_142 (lv_at hl 0 rfl) ?_
                      refine z_if_ge (tgt := 154) hx hb dX7_draw_144 (by decide) (by omega) (fun c144 => ?_) (fun c144 => ?_)
                      · refine lv_lconst (v := lN 0) hx hb dX7_draw_154 rfl ?_
                        refine n_lor hx hb dX7_draw_155 ?_
                        refine n_re (e2 := ob (drB (sht Ce k.toNat) f) (i + 1)) (dr_0 (by rw [he]; exact c144)) ?_
                        refine lv_lstore (lv' := [(5, .long (lN (ob (drB (sht Ce k.toNat) f) (i + 1)))), (8, .int (zI (Ce (64 * k.toNat + (f + (i : Int)).toNat)))), (0, .ref y), (1, .int (zI (k))), (2, .int (zI (l0))), (3, .int (zI (f))), (4, .int (zI (n0))), (7, .int (zI (i)))]) hx hb dX7_draw_156 hl (by decide) rfl (fun ls hl => ?_)
                        refine lv_iinc (v := zI (((i + 1 : Nat) : Int))) (lv' := [(7, .int (zI (((i + 1 : Nat) : Int)))), (5, .long (lN (ob (drB (sht Ce k.toNat) f) (i + 1)))), (8, .int (zI (Ce (64 * k.toNat + (f + (i : Int)).toNat)))), (0, .ref y), (1, .int (zI (k))), (2, .int (zI (l0))), (3, .int (zI (f))), (4, .int (zI (n0)))]) hx hb dX7_draw_158 hl (k := 7) rfl (zI_incr (by omega)) (by decide) rfl (fun ls hl => ?_)
                        refine lv_goto (tgt := 74) hx hb dX7_draw_161 (by decide) ?_
                        exact ih74 (i + 1) (by omega) (by rw [q2, dr_s _ _ f (by omega), if_neg (fun z => z (by omega)), if_neg (fun z => by have y1 := z.1; have y2 := z.2; rw [he] at y1 y2; omega)]) (by omega) _ _ hP hD hS _ (lv_sub hl [3, 4, 5, 6, 7, 1, 0] rfl)
                      · refine lv_lconst (v := lN 1) hx hb dX7_draw_147 rfl ?_
                        refine lv_iload hx hb dX7_draw_148 (lv_at hl 7 rfl) ?_
                        refine n_lshl hx hb (q := i) (by omega) dX7_draw_150 ?_
                        refine lv_goto (tgt := 155) hx hb dX7_draw_151 (by decide) ?_
                        refine n_lor hx hb dX7_draw_155 ?_
                        refine n_re (e2 := ob (drB (sht Ce k.toNat) f) (i + 1)) (dr_1 (by rw [he]; exact c144)) ?_
                        refine lv_lstore (lv' := [(5, .long (lN (ob (drB (sht Ce k.toNat) f) (i + 1)))), (8, .int (zI (Ce (64 * k.toNat + (f + (i : Int)).toNat)))), (0, .ref y), (1, .int (zI (k))), (2, .int (zI (l0))), (3, .int (zI (f))), (4, .int (zI (n0))), (7, .int (zI (i)))]) hx hb dX7_draw_156 hl (by decide) rfl (fun ls hl => ?_)
                        refine lv_iinc (v := zI (((i + 1 : Nat) : Int))) (lv' := [(7, .int (zI (((i + 1 : Nat) : Int)))), (5, .long (lN (ob (drB (sht Ce k.toNat) f) (i + 1)))), (8, .int (zI (Ce (64 * k.toNat + (f + (i : Int)).toNat)))), (0, .ref y), (1, .int (zI (k))), (2, .int (zI (l0))), (3, .int (zI (f))), (4, .int (zI (n0)))]) hx hb dX7_draw_158 hl (k := 7) rfl (zI_incr (by omega)) (by decide) rfl (fun ls hl => ?_)
                        refine lv_goto (tgt := 74) hx hb dX7_draw_161 (by decide) ?_
                        exact ih74 (i + 1) (by omega) (by rw [q2, dr_s _ _ f (by omega), if_neg (fun z => z (by omega)), if_neg (fun z => by have y1 := z.1; have y2 := z.2; rw [he] at y1 y2; omega)]) (by omega) _ _ hP hD hS _ (lv_sub hl [3, 4, 5, 6, 7, 1, 0] rfl)
                    · refine lv_bipush (v := zI (-20)) hx hb dX7_draw_134 (by decide +kernel) ?_
                      refine lv_iload hx hb dX7_draw_136 (lv_at hl 7 rfl) ?_
                      refine z_isub hx hb dX7_draw_138 ?_
                      have hv : dr (sht Ce k.toNat) (Sz k.toNat) f n0.toNat 0 = -20 - (i : Int) := by rw [q2]; exact dr_v _ _ f (by omega) ⟨by omega, by omega⟩ c125 c131
                      have hP := hP.sub (ws' := [oM y b (((R : Nat) : Int)) (fm) (kn) (pm0) (lm), aI t (b 0) 24 (cN (F)), aJ t (b 1) 24 (G), aI t (b 2) 4 (La), aI t (b 3) 4 (cN Sz), aI t (b 4) 256 (Ce)]) [0, 1, 2, 3, 4, 5] rfl
                      have hD := hD.sub (ws' := [oM y b (((R : Nat) : Int)) (fm) (kn) (pm0) (lm), aI t (b 0) 24 (cN (F)), aJ t (b 1) 24 (G), aI t (b 2) 4 (La), aI t (b 3) 4 (cN Sz), aI t (b 4) 256 (Ce)]) [0, 1, 2, 3, 4, 5] (by decide) rfl
                      exact W.iret (v := (zI (((-20)) - (i)))) hx hb hr (fun tq ht hW => ⟨⟨_, (R, F, G), rfl, by rw [sp_draw, if_pos (by omega), if_neg (by omega), if_neg (by omega), hv, if_neg (by omega)]; exact ⟨rfl, rfl⟩, by rw [ht]; exact hP, va_K.moved hW.alike hK, hD⟩, hS.F ht⟩) hS.2.2 dX7_draw_139
                · refine lv_bipush (v := zI (-12)) hx hb dX7_draw_103 (by decide +kernel) ?_
                  have hv : dr (sht Ce k.toNat) (Sz k.toNat) f n0.toNat 0 = -12 := by rw [q2, dr_s _ _ f (by omega), if_pos (fun z => by omega)]
                  have hP := hP.sub (ws' := [oM y b (((R : Nat) : Int)) (fm) (kn) (pm0) (lm), aI t (b 0) 24 (cN (F)), aJ t (b 1) 24 (G), aI t (b 2) 4 (La), aI t (b 3) 4 (cN Sz), aI t (b 4) 256 (Ce)]) [0, 1, 2, 3, 4, 5] rfl
                  have hD := hD.sub (ws' := [oM y b (((R : Nat) : Int)) (fm) (kn) (pm0) (lm), aI t (b 0) 24 (cN (F)), aJ t (b 1) 24 (G), aI t (b 2) 4 (La), aI t (b 3) 4 (cN Sz), aI t (b 4) 256 (Ce)]) [0, 1, 2, 3, 4, 5] (by decide) rfl
                  exact W.iret (v := (zI ((-12)))) hx hb hr (fun tq ht hW => ⟨⟨_, (R, F, G), rfl, by rw [sp_draw, if_pos (by omega), if_neg (by omega), if_neg (by omega), hv, if_neg (by decide)]; exact ⟨rfl, rfl⟩, by rw [ht]; exact hP, va_K.moved hW.alike hK, hD⟩, hS.F ht⟩) hS.2.2 dX7_draw_105
          exact lp74 _ (0) (by omega) (rfl) (Nat.lt_succ_self _) _ _ hP hD hS _ (lv_sub hl [2, 3, 4, 5, 6, 1, 0] rfl)
        · refine lv_aload_n hx hb dX7_draw_49 rfl (lv_at hl 0 rfl) ?_
          refine va_get (D := D) (ci := 6) (v := .ref (b 2)) (C := RX7) (T := TX7) (N := 16) hx hb hts iX7 hown hK hP 0 rfl rfl 3 (by decide) (hts (.fieldLink RX7 17 "CancelRowsModel" "lanes" "[I") (by decide +kernel)) (fun _ h9 => h9) rfl dX7_draw_50 ?_
          refine lv_iload_n hx hb dX7_draw_53 rfl (lv_at hl 1 rfl) ?_
          refine z_iald hx hb hK hP 3 0 rfl rfl (k.toNat) (by omega) (by omega) (by omega) dX7_draw_54 ?_
          refine lv_bipush (v := zI (-4)) hx hb dX7_draw_55 (by decide +kernel) ?_
          refine z_icmp_ne (tgt := 65) hx hb dX7_draw_57 (by decide) (by omega) (by omega) (fun c57 => ?_) (fun c57 => ?_)
          · refine lv_bipush (v := zI (-13)) hx hb dX7_draw_65 (by decide +kernel) ?_
            have hP := hP.sub (ws' := [oM y b (((R : Nat) : Int)) (fm) (kn) (pm0) (lm), aI t (b 0) 24 (cN (F)), aJ t (b 1) 24 (G), aI t (b 2) 4 (La), aI t (b 3) 4 (cN Sz), aI t (b 4) 256 (Ce)]) [0, 1, 2, 3, 4, 5] rfl
            have hD := hD.sub (ws' := [oM y b (((R : Nat) : Int)) (fm) (kn) (pm0) (lm), aI t (b 0) 24 (cN (F)), aJ t (b 1) 24 (G), aI t (b 2) 4 (La), aI t (b 3) 4 (cN Sz), aI t (b 4) 256 (Ce)]) [0, 1, 2, 3, 4, 5] (by decide) rfl
            exact W.iret (v := (zI ((-13)))) hx hb hr (fun tq ht hW => ⟨⟨_, (R, F, G), rfl, by rw [sp_draw, if_pos (by omega), if_neg (by omega), if_pos (by omega)]; exact ⟨rfl, rfl⟩, by rw [ht]; exact hP, va_K.moved hW.alike hK, hD⟩, hS.F ht⟩) hS.2.2 dX7_draw_67
          · refine lv_bipush (v := zI (-11)) hx hb dX7_draw_60 (by decide +kernel) ?_
            refine lv_goto (tgt := 67) hx hb dX7_draw_62 (by decide) ?_
            have hP := hP.sub (ws' := [oM y b (((R : Nat) : Int)) (fm) (kn) (pm0) (lm), aI t (b 0) 24 (cN (F)), aJ t (b 1) 24 (G), aI t (b 2) 4 (La), aI t (b 3) 4 (cN Sz), aI t (b 4) 256 (Ce)]) [0, 1, 2, 3, 4, 5] rfl
            have hD := hD.sub (ws' := [oM y b (((R : Nat) : Int)) (fm) (kn) (pm0) (lm), aI t (b 0) 24 (cN (F)), aJ t (b 1) 24 (G), aI t (b 2) 4 (La), aI t (b 3) 4 (cN Sz), aI t (b 4) 256 (Ce)]) [0, 1, 2, 3, 4, 5] (by decide) rfl
            exact W.iret (v := (zI ((-11)))) hx hb hr (fun tq ht hW => ⟨⟨_, (R, F, G), rfl, by rw [sp_draw, if_pos (by omega), if_pos (by omega)]; exact ⟨rfl, rfl⟩, by rw [ht]; exact hP, va_K.moved hW.alike hK, hD⟩, hS.F ht⟩) hS.2.2 dX7_draw_67
      · refine lv_iconst (v := zI (-1)) hx hb dX7_draw_37 rfl ?_
        have hP := hP.sub (ws' := [oM y b (((R : Nat) : Int)) (fm) (kn) (pm0) (lm), aI t (b 0) 24 (cN (F)), aJ t (b 1) 24 (G), aI t (b 2) 4 (La), aI t (b 3) 4 (cN Sz), aI t (b 4) 256 (Ce)]) [0, 1, 2, 3, 4, 5] rfl
        have hD := hD.sub (ws' := [oM y b (((R : Nat) : Int)) (fm) (kn) (pm0) (lm), aI t (b 0) 24 (cN (F)), aJ t (b 1) 24 (G), aI t (b 2) 4 (La), aI t (b 3) 4 (cN Sz), aI t (b 4) 256 (Ce)]) [0, 1, 2, 3, 4, 5] (by decide) rfl
        exact W.iret (v := (zI ((-1)))) hx hb hr (fun tq ht hW => ⟨⟨_, (R, F, G), rfl, by rw [sp_draw, if_neg (fun z => by omega)]; exact ⟨rfl, rfl⟩, by rw [ht]; exact hP, va_K.moved hW.alike hK, hD⟩, hS.F ht⟩) hS.2.2 dX7_draw_38

-- the check: count
set_option maxHeartbeats 4000000 in
set_option maxRecDepth 100000 in
theorem c_X7_count (l : Launch) (D : va_G) (t : Nat → ClassId) (y : Nat) (b : Nat → Nat) (R : Nat) (fm kn pm0 lm : Int) (gR : R ≤ 24) (La : Nat → Int) (Sz : Nat → Nat) (Ce : Nat → Int) (gS : shOK La Sz Ce) (w : Int) (gw : -2147483648 ≤ w ∧ w < 2147483648) : Met l yX7_count wsX7_count ({ frames := 0, cells := 0, slots := 0, locals := 0 }) (va_Pc [.ref y, .int (zI (w))] (fun U => va_P D vwCl ([oM y b (((R : Nat) : Int)) (fm) (kn) (pm0) (lm), aI t (b 2) 4 (La), aI t (b 3) 4 (cN Sz)]) U.heap ∧ va_K D vwCl (TY t) U)) (vp_Si (fun r => r = zI (sp_count R La Sz w))) 0 0 (fun _ => False) := by
  refine Met.ofW (cc := cX7_count) (maxL := 2) (ret := (some .int)) (by decide) rfl ?_
  intro p e s m args below meth c s₁ B hml hv
  obtain ⟨rfl, hP, hK⟩ := hv
  have hx := B.exec
  have hb := B.bytes
  have hr := B.returns
  have hts := atoms_spec (ws := wsX7_count) B.pre
  have hown : s.vm.findClass RX7 = some m.cls := findClass_of_methodNamed B.named
  have hlocks := B.notSynchronized
  have hl := lv_entry ([.ref y, .int (zI (w))]) (n := 2) (Nat.le_of_ble_eq_true rfl)
  rw [lg_entry_eq]
  generalize (lg_sl ([.ref y, .int (zI (w))]) ++ List.replicate (2 - (lg_sl ([.ref y, .int (zI (w))])).length) Slot.unset).toArray = ls at hl ⊢
  have hl : lv_has ls 2 [(0, .ref y), (1, .int (zI (w)))] := hl
  have iX7 : ∀ w ∈ u_ws RX7 TX7 16, w ∈ wsX7_count := by decide +kernel
  have g1 := gS.1 0 (by omega)
  refine lv_iload_n hx hb dX7_count_0 rfl (lv_at hl 1 rfl) ?_
  refine z_if_ne (tgt := 11) hx hb dX7_count_1 (by decide) (by omega) (fun c1 => ?_) (fun c1 => ?_)
  · refine lv_iload_n hx hb dX7_count_11 rfl (lv_at hl 1 rfl) ?_
    refine lv_iconst (v := zI 1) hx hb dX7_count_12 rfl ?_
    refine z_icmp_ne (tgt := 41) hx hb dX7_count_13 (by decide) (by omega) (by omega) (fun c13 => ?_) (fun c13 => ?_)
    · refine lv_iconst (v := zI (-1)) hx hb dX7_count_41 rfl ?_
      exact W.iret (v := (zI ((-1)))) hx hb hr (fun tq ht hW => ⟨_, rfl, by rw [sp_count, if_neg (by omega), if_neg (by omega)], ht⟩) (fun q h => by cases h) dX7_count_42
    · refine lv_aload_n hx hb dX7_count_16 rfl (lv_at hl 0 rfl) ?_
      refine va_get (D := D) (ci := 6) (v := .ref (b 2)) (C := RX7) (T := TX7) (N := 16) hx hb hts iX7 hown hK hP 0 rfl rfl 3 (by decide) (hts (.fieldLink RX7 17 "CancelRowsModel" "lanes" "[I") (by decide +kernel)) (fun _ h9 => h9) rfl dX7_count_17 ?_
      refine lv_iconst (v := zI 0) hx hb dX7_count_20 rfl ?_
      refine z_iald hx hb hK hP 1 0 rfl rfl (0) (by omega) (by omega) (by omega) dX7_count_21 ?_
      refine lv_bipush (v := zI (-4)) hx hb dX7_count_22 (by decide +kernel) ?_
      refine z_icmp_ne (tgt := 32) hx hb dX7_count_24 (by decide) (by omega) (by omega) (fun c24 => ?_) (fun c24 => ?_)
      · refine lv_aload_n hx hb dX7_count_32 rfl (lv_at hl 0 rfl) ?_
        refine va_get (D := D) (ci := 6) (v := .ref (b 3)) (C := RX7) (T := TX7) (N := 16) hx hb hts iX7 hown hK hP 0 rfl rfl 4 (by decide) (hts (.fieldLink RX7 20 "CancelRowsModel" "sizes" "[I") (by decide +kernel)) (fun _ h9 => h9) rfl dX7_count_33 ?_
        refine lv_iconst (v := zI 0) hx hb dX7_count_36 rfl ?_
        refine z_iald hx hb hK hP 2 0 rfl rfl (0) (by omega) (by omega) (by omega) dX7_count_37 ?_
        refine z_re (e2 := ((Sz (0) : Nat) : Int)) (rfl) ?_
        refine lv_goto (tgt := 42) hx hb dX7_count_38 (by decide) ?_
        exact W.iret (v := (zI (((Sz (0) : Nat) : Int)))) hx hb hr (fun tq ht hW => ⟨_, rfl, by rw [sp_count, if_neg (by omega), if_pos (by omega), if_neg (by omega)], ht⟩) (fun q h => by cases h) dX7_count_42
      · refine lv_bipush (v := zI (-4)) hx hb dX7_count_27 (by decide +kernel) ?_
        refine lv_goto (tgt := 42) hx hb dX7_count_29 (by decide) ?_
        exact W.iret (v := (zI ((-4)))) hx hb hr (fun tq ht hW => ⟨_, rfl, by rw [sp_count, if_neg (by omega), if_pos (by omega), if_pos (by omega)], ht⟩) (fun q h => by cases h) dX7_count_42
  · refine lv_aload_n hx hb dX7_count_4 rfl (lv_at hl 0 rfl) ?_
    refine va_get (D := D) (ci := 6) (v := .int (zI (((R : Nat) : Int)))) (C := RX7) (T := TX7) (N := 16) hx hb hts iX7 hown hK hP 0 rfl rfl 0 (by decide) (hts (.fieldLink RX7 49 "CancelRowsModel" "many" "I") (by decide +kernel)) (fun _ h9 => h9) rfl dX7_count_5 ?_
    refine lv_goto (tgt := 42) hx hb dX7_count_8 (by decide) ?_
    exact W.iret (v := (zI (((R : Nat) : Int)))) hx hb hr (fun tq ht hW => ⟨_, rfl, by rw [sp_count, if_pos (by omega)], ht⟩) (fun q h => by cases h) dX7_count_42
