/-! CancelRows: what is read of rows, and rows made of rows; in the class's words -/
abbrev lk (R : Nat) (F : Nat → Nat) (i j : Int) : Prop := inR R i ∧ inR R j ∧ F i.toNat = F j.toNat
def sp_row (R : Nat) (F G : Nat → Nat) (n v : Int) : Int × RT := if 1 ≤ n ∧ n ≤ 32 ∧ 0 ≤ v ∧ v < ((2 ^ n.toNat : Nat) : Int) then sp_add R F G n.toNat v.toNat else (-1, R, F, G)
def sp_drop (R : Nat) (F G : Nat → Nat) : Int × RT := if R = 0 then (-4, R, F, G) else (((R - 1 : Nat) : Int), R - 1, F, G)
def sp_len (R : Nat) (F : Nat → Nat) (i : Int) : Int := if inR R i then ((F i.toNat : Nat) : Int) else -1
def sp_place (R : Nat) (F G : Nat → Nat) (i j : Int) : Int := if inR R i ∧ (0 ≤ j ∧ j < ((F i.toNat : Nat) : Int)) then pm (G i.toNat) j.toNat else 0
def sp_num (R : Nat) (G : Nat → Nat) (i : Int) : Int := if inR R i then ((G i.toNat : Nat) : Int) else -1
def sp_open (R : Nat) (F G : Nat → Nat) (i j : Int) : Int := if inR R i ∧ (0 ≤ j ∧ j < ((F i.toNat : Nat) : Int)) then oS (F i.toNat) (G i.toNat) j.toNat else 1000
def sp_round (R : Nat) (F G : Nat → Nat) (i j : Int) : Int := if inR R i ∧ (0 ≤ j ∧ j < ((F i.toNat : Nat) : Int)) then rS (F i.toNat) (G i.toNat) j.toNat else 1000
def sp_about (R : Nat) (F G : Nat → Nat) (i w : Int) : Int := if inR R i then
  (if w = 0 then ((pkL (F i.toNat) (G i.toNat) (F i.toNat) : Nat) : Int) else if w = 1 then enL (F i.toNat) (G i.toNat) (F i.toNat) else if w = 2 then tot (F i.toNat) (G i.toNat) else if w = 3 then ((chS (F i.toNat) (G i.toNat) : Nat) : Int) else if w = 4 then ((cntw (F i.toNat) (G i.toNat) 8 : Nat) : Int) else -1) else -1
def sp_least (R : Nat) (F G : Nat → Nat) (i : Int) : Int := if inR R i then ((ltw (F i.toNat) (G i.toNat) 8 : Nat) : Int) else -1
def sp_turn (R : Nat) (F G : Nat → Nat) (i w : Int) : Int × RT := if inR R i ∧ 0 ≤ w ∧ w ≤ 2 then sp_add R F G (F i.toNat) (trn (F i.toNat) (G i.toNat) w.toNat) else (-1, R, F, G)
def sp_put (R : Nat) (F G : Nat → Nat) (i j : Int) : Int × RT := if inR R i ∧ inR R j then sp_add R F G (F i.toNat + F j.toNat) (jn (G i.toNat) (F i.toNat) (G j.toNat)) else (-1, R, F, G)
def sp_weave (R : Nat) (F G : Nat → Nat) (i j : Int) : Int × RT := if lk R F i j then sp_add R F G (2 * F i.toNat) (wv (G i.toNat) (G j.toNat) (F i.toNat)) else (-1, R, F, G)
def sp_times (R : Nat) (F G : Nat → Nat) (i j : Int) : Int × RT := if inR R i ∧ inR R j then sp_add R F G (F i.toNat * F j.toNat) (pd (G i.toNat) (G j.toNat) (F j.toNat) (F i.toNat * F j.toNat)) else (-1, R, F, G)
def sp_cancels (R : Nat) (F G : Nat → Nat) (i j : Int) : Int := if lk R F i j then ((ff (fun k => oS (F i.toNat) (G i.toNat) k + oS (F i.toNat) (G j.toNat) k) 1 (F i.toNat - 1) : Nat) : Int) else -1
def fourF (F G : Nat → Nat) (i j i2 j2 : Int) : Nat → Int := fun k => (rS (F i.toNat) (G i.toNat) k + rS (F i.toNat) (G j.toNat) k) + (rS (F i.toNat) (G i2.toNat) k + rS (F i.toNat) (G j2.toNat) k)
def sp_four (R : Nat) (F G : Nat → Nat) (i j i2 j2 : Int) : Int := if lk R F i j ∧ lk R F j i2 ∧ lk R F i2 j2 then ((ff (fourF F G i j i2 j2) 1 (F i.toNat - 1) : Nat) : Int) else -1
def sp_add2 (R : Nat) (F G : Nat → Nat) (n v w : Nat) : Int × RT := if n ≤ 32 ∧ R + 2 ≤ 24 then ((R : Int), R + 1 + 1, va_up (va_up F R n) (R + 1) n, va_up (va_up G R v) (R + 1) w) else (-3, R, F, G)
theorem sp_add2_y {R : Nat} {F G : Nat → Nat} {n v w : Nat} (h : n ≤ 32 ∧ R + 2 ≤ 24) : sp_add2 R F G n v w = ((R : Int), R + 1 + 1, va_up (va_up F R n) (R + 1) n, va_up (va_up G R v) (R + 1) w) := if_pos h
theorem sp_add2_n {R : Nat} {F G : Nat → Nat} {n v w : Nat} (h : ¬ (n ≤ 32 ∧ R + 2 ≤ 24)) : sp_add2 R F G n v w = (-3, R, F, G) := if_neg h
def sp_doubled (R : Nat) (F G : Nat → Nat) (i j : Int) : Int × RT := if lk R F i j then sp_add2 R F G (2 * F i.toNat) (jn (G i.toNat) (F i.toNat) (G j.toNat)) (jn (G i.toNat) (F i.toNat) (G j.toNat ^^^ (2 ^ F i.toNat - 1))) else (-1, R, F, G)
/-- the told pair: doubled from its seed on -/
def tl : Nat → Nat → Nat → Nat → Nat → Nat × Nat
  | 0, _, _, a, b => (a, b)
  | f + 1, m, n, a, b => if m < n then tl f (2 * m) n (jn a m b) (jn a m (b ^^^ (2 ^ m - 1))) else (a, b)
theorem tl_e {f m n a b : Nat} (h : ¬ m < n) : tl f m n a b = (a, b) := by
  cases f with
  | zero => rfl
  | succ f => exact if_neg h
theorem tl_s {f m n a b : Nat} (h : m < n) : tl (f + 1) m n a b = tl f (2 * m) n (jn a m b) (jn a m (b ^^^ (2 ^ m - 1))) := if_pos h
def tlP (n : Nat) : Nat × Nat := tl 6 (seedN n) n (seedA (seedN n)) (seedB (seedN n))
def sp_told (R : Nat) (F G : Nat → Nat) (n : Int) : Int × RT := if 1 ≤ n ∧ n ≤ 32 then (if seedN n.toNat = 0 then (-4, R, F, G) else sp_add2 R F G n.toNat (tlP n.toNat).1 (tlP n.toNat).2) else (-1, R, F, G)
def sp_why (n : Int) : Int := if 1 ≤ n ∧ n ≤ 1000000 then (if n % 2 = 1 ∧ ¬ n = 1 then 1 else if wy 1 n.toNat (sqN n.toNat) = 0 then 2 else if hpb n.toNat = true then 3 else 0) else -1
def sp_squares (n k : Int) : Int := if (1 ≤ k ∧ k ≤ 4) ∧ (0 ≤ n ∧ n ≤ (if k ≤ 2 then 1000000 else 1000)) then ((wy (k.toNat - 1) n.toNat (sqN n.toNat) : Nat) : Int) else -1
theorem trn_TWw (n x : Nat) : ∀ w, w < 3 → TWw n x (2 ^ w) = trn n x w := by
  intro w hw
  rcases (show w = 0 ∨ w = 1 ∨ w = 2 by omega) with h | h | h <;> subst h <;> rfl
theorem seed_le (n : Nat) : seedN n ≤ 26 := by unfold seedN; split <;> (try split) <;> (try split) <;> omega
-- row
set_option maxHeartbeats 4000000 in
set_option maxRecDepth 100000 in
theorem c_X6_row (l : Launch) (D : va_G) (t : Nat → ClassId) (sz : Nat) (x : Nat) (a : Nat → Nat) (R : Nat) (F G : Nat → Nat) (gV : RV R F G) (n v : Int) (gn : -2147483648 ≤ n ∧ n < 2147483648) (gv : -9223372036854775808 ≤ v ∧ v < 9223372036854775808) : Met l yX6_row wsX6_row ({ frames := 1, cells := 0, slots := 0, locals := 24 }) (va_Pc [.ref x, .int (zI (n)), .long (zL (v))] (fun U => U.heap.size = sz ∧ va_P D vwCl ([oX x a (((R : Nat) : Int)), aI t (a 0) 24 (cN F), aJ t (a 1) 24 (G)]) U.heap ∧ va_K D vwCl (TY t) U ∧ va_D (fun _ => True) ([oX x a (((R : Nat) : Int)), aI t (a 0) 24 (cN F), aJ t (a 1) 24 (G)]))) (va_Qi (fun r (u : RT) => r = zI (sp_row R F G n v).1 ∧ u = (sp_row R F G n v).2) (fun (u : RT) t1 => va_P D vwCl ([oX x a (((u.1 : Nat) : Int)), aI t (a 0) 24 (cN (u.2.1)), aJ t (a 1) 24 (u.2.2)]) t1.heap ∧ va_K D vwCl (TY t) t1 ∧ va_D (va_A ([oX x a (((R : Nat) : Int)), aI t (a 0) 24 (cN F), aJ t (a 1) 24 (G)]) sz) ([oX x a (((u.1 : Nat) : Int)), aI t (a 0) 24 (cN (u.2.1)), aJ t (a 1) 24 (u.2.2)])) (va_A ([oX x a (((R : Nat) : Int)), aI t (a 0) 24 (cN F), aJ t (a 1) 24 (G)]) sz)) 0 0 (va_A ([oX x a (((R : Nat) : Int)), aI t (a 0) 24 (cN F), aJ t (a 1) 24 (G)]) sz) := by
  refine Met.ofW (cc := cX6_row) (maxL := 4) (ret := (some .int)) (by decide) rfl ?_
  intro p e s m args below meth c s₁ B hml hv
  obtain ⟨rfl, hsz, hP, hK, hD0⟩ := hv
  have hx := B.exec
  have hb := B.bytes
  have hr := B.returns
  have hts := atoms_spec (ws := wsX6_row) B.pre
  have hown : s.vm.findClass RX6 = some m.cls := findClass_of_methodNamed B.named
  have hlocks := B.notSynchronized
  subst hsz
  have hD := hD0.self (sz := s.heap.size)
  generalize hAe : va_A ([oX x a (((R : Nat) : Int)), aI t (a 0) 24 (cN F), aJ t (a 1) 24 (G)]) s.heap.size = AA at hD ⊢
  have hA : ∀ q : Nat, s.heap.size ≤ q → AA q := fun q h => by rw [← hAe]; exact Or.inr h
  have hS : va_S AA s.heap s.heap [] := va_S.rf
  have hP : va_P D vwCl ([oX x a (((R : Nat) : Int)), aI t (a 0) 24 (cN F), aJ t (a 1) 24 (G)]) s.heap := hP
  have hl := lv_entry ([.ref x, .int (zI (n)), .long (zL (v))]) (n := 4) (Nat.le_of_ble_eq_true rfl)
  rw [lg_entry_eq]
  generalize (lg_sl ([.ref x, .int (zI (n)), .long (zL (v))]) ++ List.replicate (4 - (lg_sl ([.ref x, .int (zI (n)), .long (zL (v))])).length) Slot.unset).toArray = ls at hl ⊢
  have hl : lv_has ls 4 [(0, .ref x), (1, .int (zI (n))), (2, .long (zL (v)))] := hl
  have gR := gV.1
  refine lv_iload_n hx hb dX6_row_0 rfl (lv_at hl 1 rfl) ?_
  refine lv_iconst (v := zI 1) hx hb dX6_row_1 rfl ?_
  refine lv_bipush (v := zI 32) hx hb dX6_row_2 (by decide +kernel) ?_
  refine vp_callSi (va_runS (As := [.int (zI (n)), .int (zI (1)), .int (zI (32))]) (rest := []) ⟨hx, hb, hml, hown, hts⟩ (c_X6_within l n 1 32 gn (by omega) (by omega)) (va_cwS 3 hts gX6_row_X6_within rfl rfl rfl (by decide +kernel) ⟨Nat.le_of_ble_eq_true rfl, Nat.le_of_ble_eq_true rfl⟩) ⟨fun a U g mk q => q, fun U hU hW => ⟨rfl, trivial⟩⟩ rfl rfl hl.1 rfl (lv_room (Nat.le_of_ble_eq_true rfl)) dX6_row_4 ⟨Nat.le_of_ble_eq_true rfl, Nat.le_of_ble_eq_true rfl⟩).run (fun r hr4 => ?_)
  obtain rfl := hr4
  refine z_ifb_eq (P := (1) ≤ (n) ∧ (n) ≤ (32)) (tgt := 25) hx hb dX6_row_7 (by decide) (fun c7 => ?_) (fun c7 => ?_)
  · refine lv_iconst (v := zI (-1)) hx hb dX6_row_25 rfl ?_
    have hP := hP.sub (ws' := [oX x a (((R : Nat) : Int)), aI t (a 0) 24 (cN (F)), aJ t (a 1) 24 (G)]) [0, 1, 2] rfl
    have hD := hD.sub (ws' := [oX x a (((R : Nat) : Int)), aI t (a 0) 24 (cN (F)), aJ t (a 1) 24 (G)]) [0, 1, 2] (by decide) rfl
    exact W.iret (v := (zI ((-1)))) hx hb hr (fun tq ht hW => ⟨⟨_, (R, F, G), rfl, by rw [sp_row, if_neg (fun z => by exact c7 ⟨z.1, z.2.1⟩)]; exact ⟨rfl, rfl⟩, by rw [ht]; exact hP, va_K.moved hW.alike hK, hD⟩, hS.F ht⟩) hS.2.2 dX6_row_26
  · have p1 : 2 ^ n.toNat ≤ 2 ^ 32 := Nat.pow_le_pow_right (n := 2) (j := 32) (by decide) (by omega)
    have p0 := Nat.two_pow_pos n.toNat
    refine lv_lload_n hx hb dX6_row_10 rfl (lv_at hl 2 rfl) ?_
    refine lv_lconst (v := lN 0) hx hb dX6_row_11 rfl ?_
    refine z_lcmp_lt (a := v) (b := ((0 : Nat) : Int)) (tgt := 25) hx hb dX6_row_12 dX6_row_13 (by decide) (zL_toInt (e := v) (by omega)) (lN_toI (n := 0) (by omega)) (fun c12 => ?_) (fun c12 => ?_)
    · refine lv_iconst (v := zI (-1)) hx hb dX6_row_25 rfl ?_
      have hP := hP.sub (ws' := [oX x a (((R : Nat) : Int)), aI t (a 0) 24 (cN (F)), aJ t (a 1) 24 (G)]) [0, 1, 2] rfl
      have hD := hD.sub (ws' := [oX x a (((R : Nat) : Int)), aI t (a 0) 24 (cN (F)), aJ t (a 1) 24 (G)]) [0, 1, 2] (by decide) rfl
      exact W.iret (v := (zI ((-1)))) hx hb hr (fun tq ht hW => ⟨⟨_, (R, F, G), rfl, by rw [sp_row, if_neg (fun z => by omega)]; exact ⟨rfl, rfl⟩, by rw [ht]; exact hP, va_K.moved hW.alike hK, hD⟩, hS.F ht⟩) hS.2.2 dX6_row_26
    · refine lv_lload_n hx hb dX6_row_16 rfl (lv_at hl 2 rfl) ?_
      refine lv_iload_n hx hb dX6_row_17 rfl (lv_at hl 1 rfl) ?_
      refine z_re (e2 := ((n.toNat : Nat) : Int)) (by omega) ?_
      refine vp_callSl (va_runS (As := [.int (zI (((n.toNat : Nat) : Int)))]) (rest := [.long (zL (v))]) ⟨hx, hb, hml, hown, hts⟩ (c_X3_mask l n.toNat (by omega)) (va_cwS 1 hts gX6_row_X3_mask rfl rfl rfl (by decide +kernel) ⟨Nat.le_of_ble_eq_true rfl, Nat.le_of_ble_eq_true rfl⟩) ⟨fun a U g mk q => q, fun U hU hW => ⟨rfl, trivial⟩⟩ rfl rfl hl.1 rfl (lv_room (Nat.le_of_ble_eq_true rfl)) dX6_row_18 ⟨Nat.le_of_ble_eq_true rfl, Nat.le_of_ble_eq_true rfl⟩).run (fun r hr18 => ?_)
      obtain rfl := hr18
      refine z_lcmp_le (a := v) (b := ((2 ^ (n.toNat) - 1 : Nat) : Int)) (tgt := 27) hx hb dX6_row_21 dX6_row_22 (by decide) (zL_toInt (e := v) (by omega)) (lN_toI (n := 2 ^ (n.toNat) - 1) (by omega)) (fun c21 => ?_) (fun c21 => ?_)
      · refine lv_aload_n hx hb dX6_row_27 rfl (lv_at hl 0 rfl) ?_
        refine lv_iload_n hx hb dX6_row_28 rfl (lv_at hl 1 rfl) ?_
        refine lv_iconst (v := zI 1) hx hb dX6_row_29 rfl ?_
        have hPc := hP.sub (ws' := [oX x a (((R : Nat) : Int))]) [0] rfl
        refine vp_callSi (va_runV (As := [.int (zI (n)), .int (zI (1))]) (rest := []) ⟨hx, hb, hml, hown, hts⟩ (c_X6_fits l D t x a R gR n 1 gn (by omega)) (cwV 2 hts gX6_row_X6_fits rfl rfl rfl (by decide +kernel) ⟨Nat.le_of_ble_eq_true rfl, Nat.le_of_ble_eq_true rfl⟩) ⟨fun a U g mk q => ⟨q.1, q.2.1, va_K.moved (u := U) (U := U.calling g mk a) (Vm.Alike.refl U.vm) q.2.2⟩, va_recv hK hPc (ci := 5) (q0 := 0) rfl rfl, fun U hU hW => ⟨rfl, by rw [hU]; exact hPc, va_K.moved hW.alike hK⟩⟩ rfl rfl hl.1 rfl (lv_room (Nat.le_of_ble_eq_true rfl)) dX6_row_30 ⟨Nat.le_of_ble_eq_true rfl, Nat.le_of_ble_eq_true rfl⟩).run (fun r hr30 => ?_)
        obtain rfl := hr30
        refine z_ifb_eq (P := (n) ≤ 32 ∧ (R : Int) + (1) ≤ 24) (tgt := 45) hx hb dX6_row_33 (by decide) (fun c33 => ?_) (fun c33 => ?_)
        · refine lv_bipush (v := zI (-3)) hx hb dX6_row_45 (by decide +kernel) ?_
          have hP := hP.sub (ws' := [oX x a (((R : Nat) : Int)), aI t (a 0) 24 (cN (F)), aJ t (a 1) 24 (G)]) [0, 1, 2] rfl
          have hD := hD.sub (ws' := [oX x a (((R : Nat) : Int)), aI t (a 0) 24 (cN (F)), aJ t (a 1) 24 (G)]) [0, 1, 2] (by decide) rfl
          exact W.iret (v := (zI ((-3)))) hx hb hr (fun tq ht hW => ⟨⟨_, (R, F, G), rfl, by rw [sp_row, if_pos (by omega), sp_add_n (by omega)]; exact ⟨rfl, rfl⟩, by rw [ht]; exact hP, va_K.moved hW.alike hK, hD⟩, hS.F ht⟩) hS.2.2 dX6_row_47
        · refine lv_aload_n hx hb dX6_row_36 rfl (lv_at hl 0 rfl) ?_
          refine lv_iload_n hx hb dX6_row_37 rfl (lv_at hl 1 rfl) ?_
          refine z_re (e2 := ((n.toNat : Nat) : Int)) (by omega) ?_
          refine lv_lload_n hx hb dX6_row_38 rfl (lv_at hl 2 rfl) ?_
          refine zn_re (e2 := v.toNat) (by omega) ?_
          have hPc := hP.sub (ws' := [oX x a (((R : Nat) : Int)), aI t (a 0) 24 (cN F), aJ t (a 1) 24 (G)]) [0, 1, 2] rfl
          have hDc := hD.sub (ws' := [oX x a (((R : Nat) : Int)), aI t (a 0) 24 (cN F), aJ t (a 1) 24 (G)]) [0, 1, 2] (by decide) rfl
          have hFc := va_free (wc := [oX x a (((R : Nat) : Int)), aI t (a 0) 24 (cN F), aJ t (a 1) 24 (G)]) hD hS hA [0, 1, 2] rfl
          refine va_calli (va_runV (As := [.int (zI (((n.toNat : Nat) : Int))), .long (lN (v.toNat))]) (rest := []) ⟨hx, hb, hml, hown, hts⟩ (c_X6_added l D t s.heap.size x a R F G (by omega) n.toNat v.toNat (by omega)) (cwV 2 hts gX6_row_X6_added rfl rfl rfl (by decide +kernel) ⟨Nat.le_of_ble_eq_true rfl, Nat.le_of_ble_eq_true rfl⟩) ⟨fun a U g mk q => by obtain ⟨q0, q1, qP, qK, qD⟩ := q; exact ⟨q0, q1, qP, va_K.moved (u := U) (U := U.calling g mk a) (Vm.Alike.refl U.vm) qK, qD⟩, va_recv hK hPc (ci := 5) (q0 := 0) rfl rfl, fun U hU hW => ⟨rfl, by rw [hU], by rw [hU]; exact hPc, va_K.moved hW.alike hK, hDc.weaken (fun _ _ _ _ => trivial)⟩⟩ rfl rfl hl.1 rfl (lv_room (Nat.le_of_ble_eq_true rfl)) dX6_row_39 ⟨Nat.le_of_ble_eq_true rfl, Nat.le_of_ble_eq_true rfl⟩) hS (fun q _ h => hFc q h) hFc (fun r u tq H1 locs ht hvm hr39 hB hz1 hk1 hS => ?_)
          obtain ⟨R2, F2, G2⟩ := u
          obtain ⟨hP1, hK1, hD1⟩ := hB
          rw [ht] at hP1
          obtain ⟨hP, hD⟩ := va_join (wr := []) (w1 := [oX x a (((R2 : Nat) : Int)), aI t (a 0) 24 (cN (F2)), aJ t (a 1) 24 (G2)]) hP hD [0, 1, 2] [] rfl rfl (by decide) (by decide) hk1 hFc hP1 hD1
          generalize H1 = H at hP hS ⊢
          have hP : va_P D vwCl [oX x a (((R2 : Nat) : Int)), aI t (a 0) 24 (cN (F2)), aJ t (a 1) 24 (G2)] H := hP
          have hD : va_D AA [oX x a (((R2 : Nat) : Int)), aI t (a 0) 24 (cN (F2)), aJ t (a 1) 24 (G2)] := hD
          obtain ⟨rfl, hu⟩ := hr39
          obtain ⟨rfl, rfl, rfl⟩ : R2 = R + 1 ∧ F2 = va_up F R n.toNat ∧ G2 = va_up G R v.toNat := ⟨congrArg (·.1) hu, congrArg (·.2.1) hu, congrArg (·.2.2) hu⟩
          refine lv_goto (tgt := 47) hx hb dX6_row_42 (by decide) ?_
          have hP := hP.sub (ws' := [oX x a (((R + 1 : Nat) : Int)), aI t (a 0) 24 (cN (va_up F R n.toNat)), aJ t (a 1) 24 (va_up G R v.toNat)]) [0, 1, 2] rfl
          have hD := hD.sub (ws' := [oX x a (((R + 1 : Nat) : Int)), aI t (a 0) 24 (cN (va_up F R n.toNat)), aJ t (a 1) 24 (va_up G R v.toNat)]) [0, 1, 2] (by decide) rfl
          exact W.iret (v := (zI (((R : Nat) : Int)))) hx hb hr (fun tq ht hW => ⟨⟨_, (R + 1, va_up F R n.toNat, va_up G R v.toNat), rfl, by rw [sp_row, if_pos (by omega), sp_add_y (by omega)]; exact ⟨rfl, rfl⟩, by rw [ht]; exact hP, va_K.moved hW.alike hK, hD⟩, hS.F ht⟩) hS.2.2 dX6_row_47
      · refine lv_iconst (v := zI (-1)) hx hb dX6_row_25 rfl ?_
        have hP := hP.sub (ws' := [oX x a (((R : Nat) : Int)), aI t (a 0) 24 (cN (F)), aJ t (a 1) 24 (G)]) [0, 1, 2] rfl
        have hD := hD.sub (ws' := [oX x a (((R : Nat) : Int)), aI t (a 0) 24 (cN (F)), aJ t (a 1) 24 (G)]) [0, 1, 2] (by decide) rfl
        exact W.iret (v := (zI ((-1)))) hx hb hr (fun tq ht hW => ⟨⟨_, (R, F, G), rfl, by rw [sp_row, if_neg (fun z => by omega)]; exact ⟨rfl, rfl⟩, by rw [ht]; exact hP, va_K.moved hW.alike hK, hD⟩, hS.F ht⟩) hS.2.2 dX6_row_26

-- drop
set_option maxHeartbeats 4000000 in
set_option maxRecDepth 100000 in
theorem c_X6_drop (l : Launch) (D : va_G) (t : Nat → ClassId) (sz : Nat) (x : Nat) (a : Nat → Nat) (R : Nat) (F G : Nat → Nat) (gV : RV R F G)  : Met l yX6_drop wsX6_drop ({ frames := 0, cells := 0, slots := 0, locals := 0 }) (va_Pc [.ref x] (fun U => U.heap.size = sz ∧ va_P D vwCl ([oX x a (((R : Nat) : Int)), aI t (a 0) 24 (cN F), aJ t (a 1) 24 (G)]) U.heap ∧ va_K D vwCl (TY t) U ∧ va_D (fun _ => True) ([oX x a (((R : Nat) : Int)), aI t (a 0) 24 (cN F), aJ t (a 1) 24 (G)]))) (va_Qi (fun r (u : RT) => r = zI (sp_drop R F G).1 ∧ u = (sp_drop R F G).2) (fun (u : RT) t1 => va_P D vwCl ([oX x a (((u.1 : Nat) : Int)), aI t (a 0) 24 (cN (u.2.1)), aJ t (a 1) 24 (u.2.2)]) t1.heap ∧ va_K D vwCl (TY t) t1 ∧ va_D (va_A ([oX x a (((R : Nat) : Int)), aI t (a 0) 24 (cN F), aJ t (a 1) 24 (G)]) sz) ([oX x a (((u.1 : Nat) : Int)), aI t (a 0) 24 (cN (u.2.1)), aJ t (a 1) 24 (u.2.2)])) (va_A ([oX x a (((R : Nat) : Int)), aI t (a 0) 24 (cN F), aJ t (a 1) 24 (G)]) sz)) 0 0 (va_A ([oX x a (((R : Nat) : Int)), aI t (a 0) 24 (cN F), aJ t (a 1) 24 (G)]) sz) := by
  refine Met.ofW (cc := cX6_drop) (maxL := 1) (ret := (some .int)) (by decide) rfl ?_
  intro p e s m args below meth c s₁ B hml hv
  obtain ⟨rfl, hsz, hP, hK, hD0⟩ := hv
  have hx := B.exec
  have hb := B.bytes
  have hr := B.returns
  have hts := atoms_spec (ws := wsX6_drop) B.pre
  have hown : s.vm.findClass RX6 = some m.cls := findClass_of_methodNamed B.named
  have hlocks := B.notSynchronized
  subst hsz
  have hD := hD0.self (sz := s.heap.size)
  generalize hAe : va_A ([oX x a (((R : Nat) : Int)), aI t (a 0) 24 (cN F), aJ t (a 1) 24 (G)]) s.heap.size = AA at hD ⊢
  have hA : ∀ q : Nat, s.heap.size ≤ q → AA q := fun q h => by rw [← hAe]; exact Or.inr h
  have hS : va_S AA s.heap s.heap [] := va_S.rf
  have hP : va_P D vwCl ([oX x a (((R : Nat) : Int)), aI t (a 0) 24 (cN F), aJ t (a 1) 24 (G)]) s.heap := hP
  have hl := lv_entry ([.ref x]) (n := 1) (Nat.le_of_ble_eq_true rfl)
  rw [lg_entry_eq]
  generalize (lg_sl ([.ref x]) ++ List.replicate (1 - (lg_sl ([.ref x])).length) Slot.unset).toArray = ls at hl ⊢
  have hl : lv_has ls 1 [(0, .ref x)] := hl
  have iX6 : ∀ w ∈ u_ws RX6 TX6 7, w ∈ wsX6_drop := by decide +kernel
  have gR := gV.1
  refine lv_aload_n hx hb dX6_drop_0 rfl (lv_at hl 0 rfl) ?_
  refine va_get (D := D) (ci := 5) (v := .int (zI (((R : Nat) : Int)))) (C := RX6) (T := TX6) (N := 7) hx hb hts iX6 hown hK hP 0 rfl rfl 6 (by decide) (hts (.fieldLink RX6 38 "CancelRows" "rows" "I") (by decide +kernel)) (fun _ h9 => h9) rfl dX6_drop_1 ?_
  refine z_if_ne (tgt := 10) hx hb dX6_drop_4 (by decide) (by omega) (fun c4 => ?_) (fun c4 => ?_)
  · refine lv_aload_n hx hb dX6_drop_10 rfl (lv_at hl 0 rfl) ?_
    refine lv_dup hx hb dX6_drop_11 rfl ?_
    refine va_get (D := D) (ci := 5) (v := .int (zI (((R : Nat) : Int)))) (C := RX6) (T := TX6) (N := 7) hx hb hts iX6 hown hK hP 0 rfl rfl 6 (by decide) (hts (.fieldLink RX6 38 "CancelRows" "rows" "I") (by decide +kernel)) (fun _ h9 => h9) rfl dX6_drop_12 ?_
    refine lv_iconst (v := zI 1) hx hb dX6_drop_15 rfl ?_
    refine z_isub hx hb dX6_drop_16 ?_
    refine z_re (e2 := ((R - 1 : Nat) : Int)) (by omega) ?_
    refine va_put (D := D) (ci := 5) (v := .int (zI (((R - 1 : Nat) : Int)))) (ty := .int) (C := RX6) (T := TX6) (N := 7) hx hb hts iX6 tyX6 tyX6_ok nmX6 hown hK hP hD hS 0 rfl rfl 6 (by decide) (hts (.fieldLink RX6 38 "CancelRows" "rows" "I") (by decide +kernel)) (fun _ h9 => h9) rfl (by decide +kernel) rfl rfl (Nat.le_of_ble_eq_true rfl) dX6_drop_17 (fun H locs hP hD hS => ?_)
    have hP : va_P D vwCl [oX x a (((R - 1 : Nat) : Int)), aI t (a 0) 24 (cN F), aJ t (a 1) 24 (G)] H := hP
    have hD : va_D AA [oX x a (((R - 1 : Nat) : Int)), aI t (a 0) 24 (cN F), aJ t (a 1) 24 (G)] := hD
    refine lv_aload_n hx hb dX6_drop_20 rfl (lv_at hl 0 rfl) ?_
    refine va_get (D := D) (ci := 5) (v := .int (zI (((R - 1 : Nat) : Int)))) (C := RX6) (T := TX6) (N := 7) hx hb hts iX6 hown hK hP 0 rfl rfl 6 (by decide) (hts (.fieldLink RX6 38 "CancelRows" "rows" "I") (by decide +kernel)) (fun _ h9 => h9) rfl dX6_drop_21 ?_
    have hP := hP.sub (ws' := [oX x a (((R - 1 : Nat) : Int)), aI t (a 0) 24 (cN (F)), aJ t (a 1) 24 (G)]) [0, 1, 2] rfl
    have hD := hD.sub (ws' := [oX x a (((R - 1 : Nat) : Int)), aI t (a 0) 24 (cN (F)), aJ t (a 1) 24 (G)]) [0, 1, 2] (by decide) rfl
    exact W.iret (v := (zI (((R - 1 : Nat) : Int)))) hx hb hr (fun tq ht hW => ⟨⟨_, (R - 1, F, G), rfl, by rw [sp_drop, if_neg (by omega)]; exact ⟨rfl, rfl⟩, by rw [ht]; exact hP, va_K.moved hW.alike hK, hD⟩, hS.F ht⟩) hS.2.2 dX6_drop_24
  · refine lv_bipush (v := zI (-4)) hx hb dX6_drop_7 (by decide +kernel) ?_
    have hP := hP.sub (ws' := [oX x a (((R : Nat) : Int)), aI t (a 0) 24 (cN (F)), aJ t (a 1) 24 (G)]) [0, 1, 2] rfl
    have hD := hD.sub (ws' := [oX x a (((R : Nat) : Int)), aI t (a 0) 24 (cN (F)), aJ t (a 1) 24 (G)]) [0, 1, 2] (by decide) rfl
    exact W.iret (v := (zI ((-4)))) hx hb hr (fun tq ht hW => ⟨⟨_, (R, F, G), rfl, by rw [sp_drop, if_pos (by omega)]; exact ⟨rfl, rfl⟩, by rw [ht]; exact hP, va_K.moved hW.alike hK, hD⟩, hS.F ht⟩) hS.2.2 dX6_drop_9

-- length
set_option maxHeartbeats 4000000 in
set_option maxRecDepth 100000 in
theorem c_X6_length (l : Launch) (D : va_G) (t : Nat → ClassId) (x : Nat) (a : Nat → Nat) (R : Nat) (F G : Nat → Nat) (gV : RV R F G) (i : Int) (gi : -2147483648 ≤ i ∧ i < 2147483648) : Met l yX6_length wsX6_length ({ frames := 2, cells := 0, slots := 0, locals := 43 }) (va_Pc [.ref x, .int (zI (i))] (fun U => va_P D vwCl ([oX x a (((R : Nat) : Int)), aI t (a 0) 24 (cN F), aJ t (a 1) 24 (G)]) U.heap ∧ va_K D vwCl (TY t) U)) (vp_Si (fun r => r = zI (sp_len R F i))) 0 0 (fun _ => False) := by
  refine Met.ofW (cc := cX6_length) (maxL := 2) (ret := (some .int)) (by decide) rfl ?_
  intro p e s m args below meth c s₁ B hml hv
  obtain ⟨rfl, hP, hK⟩ := hv
  have hx := B.exec
  have hb := B.bytes
  have hr := B.returns
  have hts := atoms_spec (ws := wsX6_length) B.pre
  have hown : s.vm.findClass RX6 = some m.cls := findClass_of_methodNamed B.named
  have hlocks := B.notSynchronized
  have hl := lv_entry ([.ref x, .int (zI (i))]) (n := 2) (Nat.le_of_ble_eq_true rfl)
  rw [lg_entry_eq]
  generalize (lg_sl ([.ref x, .int (zI (i))]) ++ List.replicate (2 - (lg_sl ([.ref x, .int (zI (i))])).length) Slot.unset).toArray = ls at hl ⊢
  have hl : lv_has ls 2 [(0, .ref x), (1, .int (zI (i)))] := hl
  have iX6 : ∀ w ∈ u_ws RX6 TX6 7, w ∈ wsX6_length := by decide +kernel
  have gR := gV.1
  refine lv_aload_n hx hb dX6_length_0 rfl (lv_at hl 0 rfl) ?_
  refine lv_iload_n hx hb dX6_length_1 rfl (lv_at hl 1 rfl) ?_
  have hPc := hP.sub (ws' := [oX x a (((R : Nat) : Int))]) [0] rfl
  refine vp_callSi (va_runV (As := [.int (zI (i))]) (rest := []) ⟨hx, hb, hml, hown, hts⟩ (c_X6_isRow l D t x a R gV.1 i gi) (cwV 1 hts gX6_length_X6_isRow rfl rfl rfl (by decide +kernel) ⟨Nat.le_of_ble_eq_true rfl, Nat.le_of_ble_eq_true rfl⟩) ⟨fun a U g mk q => ⟨q.1, q.2.1, va_K.moved (u := U) (U := U.calling g mk a) (Vm.Alike.refl U.vm) q.2.2⟩, va_recv hK hPc (ci := 5) (q0 := 0) rfl rfl, fun U hU hW => ⟨rfl, by rw [hU]; exact hPc, va_K.moved hW.alike hK⟩⟩ rfl rfl hl.1 rfl (lv_room (Nat.le_of_ble_eq_true rfl)) dX6_length_2 ⟨Nat.le_of_ble_eq_true rfl, Nat.le_of_ble_eq_true rfl⟩).run (fun r hr2 => ?_)
  obtain rfl := hr2
  refine z_ifb_eq (P := inR R (i)) (tgt := 17) hx hb dX6_length_5 (by decide) (fun c5 => ?_) (fun c5 => ?_)
  · refine lv_iconst (v := zI (-1)) hx hb dX6_length_17 rfl ?_
    exact W.iret (v := (zI ((-1)))) hx hb hr (fun tq ht hW => ⟨_, rfl, by rw [sp_len, if_neg c5], ht⟩) (fun q h => by cases h) dX6_length_18
  · have h1 := RV_at gV c5
    refine lv_aload_n hx hb dX6_length_8 rfl (lv_at hl 0 rfl) ?_
    refine va_get (D := D) (ci := 5) (v := .ref (a 0)) (C := RX6) (T := TX6) (N := 7) hx hb hts iX6 hown hK hP 0 rfl rfl 0 (by decide) (hts (.fieldLink RX6 9 "CancelRows" "lengths" "[I") (by decide +kernel)) (fun _ h9 => h9) rfl dX6_length_9 ?_
    refine lv_iload_n hx hb dX6_length_12 rfl (lv_at hl 1 rfl) ?_
    refine z_iald hx hb hK hP 1 0 rfl rfl (i.toNat) (by omega) (by omega) (by omega) dX6_length_13 ?_
    refine z_re (e2 := ((F (i.toNat) : Nat) : Int)) (rfl) ?_
    refine lv_goto (tgt := 18) hx hb dX6_length_14 (by decide) ?_
    exact W.iret (v := (zI (((F (i.toNat) : Nat) : Int)))) hx hb hr (fun tq ht hW => ⟨_, rfl, by rw [sp_len, if_pos c5], ht⟩) (fun q h => by cases h) dX6_length_18

-- number
set_option maxHeartbeats 4000000 in
set_option maxRecDepth 100000 in
theorem c_X6_number (l : Launch) (D : va_G) (t : Nat → ClassId) (x : Nat) (a : Nat → Nat) (R : Nat) (F G : Nat → Nat) (gV : RV R F G) (i : Int) (gi : -2147483648 ≤ i ∧ i < 2147483648) : Met l yX6_number wsX6_number ({ frames := 2, cells := 0, slots := 0, locals := 43 }) (va_Pc [.ref x, .int (zI (i))] (fun U => va_P D vwCl ([oX x a (((R : Nat) : Int)), aI t (a 0) 24 (cN F), aJ t (a 1) 24 (G)]) U.heap ∧ va_K D vwCl (TY t) U)) (vp_Sl (fun r => r = zL (sp_num R G i))) 0 0 (fun _ => False) := by
  refine Met.ofW (cc := cX6_number) (maxL := 2) (ret := (some .long)) (by decide) rfl ?_
  intro p e s m args below meth c s₁ B hml hv
  obtain ⟨rfl, hP, hK⟩ := hv
  have hx := B.exec
  have hb := B.bytes
  have hr := B.returns
  have hts := atoms_spec (ws := wsX6_number) B.pre
  have hown : s.vm.findClass RX6 = some m.cls := findClass_of_methodNamed B.named
  have hlocks := B.notSynchronized
  have hl := lv_entry ([.ref x, .int (zI (i))]) (n := 2) (Nat.le_of_ble_eq_true rfl)
  rw [lg_entry_eq]
  generalize (lg_sl ([.ref x, .int (zI (i))]) ++ List.replicate (2 - (lg_sl ([.ref x, .int (zI (i))])).length) Slot.unset).toArray = ls at hl ⊢
  have hl : lv_has ls 2 [(0, .ref x), (1, .int (zI (i)))] := hl
  have iX6 : ∀ w ∈ u_ws RX6 TX6 7, w ∈ wsX6_number := by decide +kernel
  have gR := gV.1
  refine lv_aload_n hx hb dX6_number_0 rfl (lv_at hl 0 rfl) ?_
  refine lv_iload_n hx hb dX6_number_1 rfl (lv_at hl 1 rfl) ?_
  have hPc := hP.sub (ws' := [oX x a (((R : Nat) : Int))]) [0] rfl
  refine vp_callSi (va_runV (As := [.int (zI (i))]) (rest := []) ⟨hx, hb, hml, hown, hts⟩ (c_X6_isRow l D t x a R gV.1 i gi) (cwV 1 hts gX6_number_X6_isRow rfl rfl rfl (by decide +kernel) ⟨Nat.le_of_ble_eq_true rfl, Nat.le_of_ble_eq_true rfl⟩) ⟨fun a U g mk q => ⟨q.1, q.2.1, va_K.moved (u := U) (U := U.calling g mk a) (Vm.Alike.refl U.vm) q.2.2⟩, va_recv hK hPc (ci := 5) (q0 := 0) rfl rfl, fun U hU hW => ⟨rfl, by rw [hU]; exact hPc, va_K.moved hW.alike hK⟩⟩ rfl rfl hl.1 rfl (lv_room (Nat.le_of_ble_eq_true rfl)) dX6_number_2 ⟨Nat.le_of_ble_eq_true rfl, Nat.le_of_ble_eq_true rfl⟩).run (fun r hr2 => ?_)
  obtain rfl := hr2
  refine z_ifb_eq (P := inR R (i)) (tgt := 17) hx hb dX6_number_5 (by decide) (fun c5 => ?_) (fun c5 => ?_)
  · refine lv_ldc2 (v := zL (-1)) hx hb hown (hts (.constantLong RX6 90 (zL (-1))) (by decide +kernel)) dX6_number_17 ?_
    exact W.lret (v := (zL ((-1)))) hx hb hr (fun tq ht hW => ⟨_, rfl, by rw [sp_num, if_neg c5], ht⟩) (fun q h => by cases h) dX6_number_20
  · have h1 := RV_at gV c5
    refine lv_aload_n hx hb dX6_number_8 rfl (lv_at hl 0 rfl) ?_
    refine va_get (D := D) (ci := 5) (v := .ref (a 1)) (C := RX6) (T := TX6) (N := 7) hx hb hts iX6 hown hK hP 0 rfl rfl 1 (by decide) (hts (.fieldLink RX6 13 "CancelRows" "numbers" "[J") (by decide +kernel)) (fun _ h9 => h9) rfl dX6_number_9 ?_
    refine lv_iload_n hx hb dX6_number_12 rfl (lv_at hl 1 rfl) ?_
    refine l_lald hx hb hK hP 2 1 rfl rfl (i.toNat) (by omega) (by omega) (by omega) dX6_number_13 ?_
    refine lv_goto (tgt := 20) hx hb dX6_number_14 (by decide) ?_
    exact W.lret (v := (lN ((G) (i.toNat)))) hx hb hr (fun tq ht hW => ⟨_, rfl, by rw [sp_num, if_pos c5, zL_lN], ht⟩) (fun q h => by cases h) dX6_number_20

-- least
set_option maxHeartbeats 4000000 in
set_option maxRecDepth 100000 in
theorem c_X6_least (l : Launch) (D : va_G) (t : Nat → ClassId) (x : Nat) (a : Nat → Nat) (R : Nat) (F G : Nat → Nat) (gV : RV R F G) (i : Int) (gi : -2147483648 ≤ i ∧ i < 2147483648) : Met l yX6_least wsX6_least ({ frames := 4, cells := 0, slots := 0, locals := 92 }) (va_Pc [.ref x, .int (zI (i))] (fun U => va_P D vwCl ([oX x a (((R : Nat) : Int)), aI t (a 0) 24 (cN F), aJ t (a 1) 24 (G)]) U.heap ∧ va_K D vwCl (TY t) U)) (vp_Sl (fun r => r = zL (sp_least R F G i))) 0 0 (fun _ => False) := by
  refine Met.ofW (cc := cX6_least) (maxL := 2) (ret := (some .long)) (by decide) rfl ?_
  intro p e s m args below meth c s₁ B hml hv
  obtain ⟨rfl, hP, hK⟩ := hv
  have hx := B.exec
  have hb := B.bytes
  have hr := B.returns
  have hts := atoms_spec (ws := wsX6_least) B.pre
  have hown : s.vm.findClass RX6 = some m.cls := findClass_of_methodNamed B.named
  have hlocks := B.notSynchronized
  have hl := lv_entry ([.ref x, .int (zI (i))]) (n := 2) (Nat.le_of_ble_eq_true rfl)
  rw [lg_entry_eq]
  generalize (lg_sl ([.ref x, .int (zI (i))]) ++ List.replicate (2 - (lg_sl ([.ref x, .int (zI (i))])).length) Slot.unset).toArray = ls at hl ⊢
  have hl : lv_has ls 2 [(0, .ref x), (1, .int (zI (i)))] := hl
  have iX6 : ∀ w ∈ u_ws RX6 TX6 7, w ∈ wsX6_least := by decide +kernel
  have gR := gV.1
  refine lv_aload_n hx hb dX6_least_0 rfl (lv_at hl 0 rfl) ?_
  refine lv_iload_n hx hb dX6_least_1 rfl (lv_at hl 1 rfl) ?_
  have hPc := hP.sub (ws' := [oX x a (((R : Nat) : Int))]) [0] rfl
  refine vp_callSi (va_runV (As := [.int (zI (i))]) (rest := []) ⟨hx, hb, hml, hown, hts⟩ (c_X6_isRow l D t x a R gV.1 i gi) (cwV 1 hts gX6_least_X6_isRow rfl rfl rfl (by decide +kernel) ⟨Nat.le_of_ble_eq_true rfl, Nat.le_of_ble_eq_true rfl⟩) ⟨fun a U g mk q => ⟨q.1, q.2.1, va_K.moved (u := U) (U := U.calling g mk a) (Vm.Alike.refl U.vm) q.2.2⟩, va_recv hK hPc (ci := 5) (q0 := 0) rfl rfl, fun U hU hW => ⟨rfl, by rw [hU]; exact hPc, va_K.moved hW.alike hK⟩⟩ rfl rfl hl.1 rfl (lv_room (Nat.le_of_ble_eq_true rfl)) dX6_least_2 ⟨Nat.le_of_ble_eq_true rfl, Nat.le_of_ble_eq_true rfl⟩).run (fun r hr2 => ?_)
  obtain rfl := hr2
  refine z_ifb_eq (P := inR R (i)) (tgt := 26) hx hb dX6_least_5 (by decide) (fun c5 => ?_) (fun c5 => ?_)
  · refine lv_ldc2 (v := zL (-1)) hx hb hown (hts (.constantLong RX6 90 (zL (-1))) (by decide +kernel)) dX6_least_26 ?_
    exact W.lret (v := (zL ((-1)))) hx hb hr (fun tq ht hW => ⟨_, rfl, by rw [sp_least, if_neg c5], ht⟩) (fun q h => by cases h) dX6_least_29
  · have h1 := RV_at gV c5
    refine lv_aload_n hx hb dX6_least_8 rfl (lv_at hl 0 rfl) ?_
    refine va_get (D := D) (ci := 5) (v := .ref (a 1)) (C := RX6) (T := TX6) (N := 7) hx hb hts iX6 hown hK hP 0 rfl rfl 1 (by decide) (hts (.fieldLink RX6 13 "CancelRows" "numbers" "[J") (by decide +kernel)) (fun _ h9 => h9) rfl dX6_least_9 ?_
    refine lv_iload_n hx hb dX6_least_12 rfl (lv_at hl 1 rfl) ?_
    refine l_lald hx hb hK hP 2 1 rfl rfl (i.toNat) (by omega) (by omega) (by omega) dX6_least_13 ?_
    refine lv_aload_n hx hb dX6_least_14 rfl (lv_at hl 0 rfl) ?_
    refine va_get (D := D) (ci := 5) (v := .ref (a 0)) (C := RX6) (T := TX6) (N := 7) hx hb hts iX6 hown hK hP 0 rfl rfl 0 (by decide) (hts (.fieldLink RX6 9 "CancelRows" "lengths" "[I") (by decide +kernel)) (fun _ h9 => h9) rfl dX6_least_15 ?_
    refine lv_iload_n hx hb dX6_least_18 rfl (lv_at hl 1 rfl) ?_
    refine z_iald hx hb hK hP 1 0 rfl rfl (i.toNat) (by omega) (by omega) (by omega) dX6_least_19 ?_
    refine z_re (e2 := ((F (i.toNat) : Nat) : Int)) (rfl) ?_
    refine vp_callSl (va_runS (As := [.long (lN ((G) (i.toNat))), .int (zI (((F (i.toNat) : Nat) : Int)))]) (rest := []) ⟨hx, hb, hml, hown, hts⟩ (c_X3_leastTurned l (G i.toNat) (F i.toNat) h1.2.1 h1.2.2) (va_cwS 2 hts gX6_least_X3_leastTurned rfl rfl rfl (by decide +kernel) ⟨Nat.le_of_ble_eq_true rfl, Nat.le_of_ble_eq_true rfl⟩) ⟨fun a U g mk q => q, fun U hU hW => ⟨rfl, trivial⟩⟩ rfl rfl hl.1 rfl (lv_room (Nat.le_of_ble_eq_true rfl)) dX6_least_20 ⟨Nat.le_of_ble_eq_true rfl, Nat.le_of_ble_eq_true rfl⟩).run (fun r hr20 => ?_)
    obtain rfl := hr20
    refine lv_goto (tgt := 29) hx hb dX6_least_23 (by decide) ?_
    exact W.lret (v := (lN (ltw (F (i.toNat)) ((G) (i.toNat)) 8))) hx hb hr (fun tq ht hW => ⟨_, rfl, by rw [sp_least, if_pos c5, zL_lN], ht⟩) (fun q h => by cases h) dX6_least_29

-- place
set_option maxHeartbeats 4000000 in
set_option maxRecDepth 100000 in
theorem c_X6_place (l : Launch) (D : va_G) (t : Nat → ClassId) (x : Nat) (a : Nat → Nat) (R : Nat) (F G : Nat → Nat) (gV : RV R F G) (i j : Int) (gi : -2147483648 ≤ i ∧ i < 2147483648) (gj : -2147483648 ≤ j ∧ j < 2147483648) : Met l yX6_place wsX6_place ({ frames := 2, cells := 0, slots := 0, locals := 43 }) (va_Pc [.ref x, .int (zI (i)), .int (zI (j))] (fun U => va_P D vwCl ([oX x a (((R : Nat) : Int)), aI t (a 0) 24 (cN F), aJ t (a 1) 24 (G)]) U.heap ∧ va_K D vwCl (TY t) U)) (vp_Si (fun r => r = zI (sp_place R F G i j))) 0 0 (fun _ => False) := by
  refine Met.ofW (cc := cX6_place) (maxL := 3) (ret := (some .int)) (by decide) rfl ?_
  intro p e s m args below meth c s₁ B hml hv
  obtain ⟨rfl, hP, hK⟩ := hv
  have hx := B.exec
  have hb := B.bytes
  have hr := B.returns
  have hts := atoms_spec (ws := wsX6_place) B.pre
  have hown : s.vm.findClass RX6 = some m.cls := findClass_of_methodNamed B.named
  have hlocks := B.notSynchronized
  have hl := lv_entry ([.ref x, .int (zI (i)), .int (zI (j))]) (n := 3) (Nat.le_of_ble_eq_true rfl)
  rw [lg_entry_eq]
  generalize (lg_sl ([.ref x, .int (zI (i)), .int (zI (j))]) ++ List.replicate (3 - (lg_sl ([.ref x, .int (zI (i)), .int (zI (j))])).length) Slot.unset).toArray = ls at hl ⊢
  have hl : lv_has ls 3 [(0, .ref x), (1, .int (zI (i))), (2, .int (zI (j)))] := hl
  have iX6 : ∀ w ∈ u_ws RX6 TX6 7, w ∈ wsX6_place := by decide +kernel
  have gR := gV.1
  refine lv_aload_n hx hb dX6_place_0 rfl (lv_at hl 0 rfl) ?_
  refine lv_iload_n hx hb dX6_place_1 rfl (lv_at hl 1 rfl) ?_
  have hPc := hP.sub (ws' := [oX x a (((R : Nat) : Int))]) [0] rfl
  refine vp_callSi (va_runV (As := [.int (zI (i))]) (rest := []) ⟨hx, hb, hml, hown, hts⟩ (c_X6_isRow l D t x a R gV.1 i gi) (cwV 1 hts gX6_place_X6_isRow rfl rfl rfl (by decide +kernel) ⟨Nat.le_of_ble_eq_true rfl, Nat.le_of_ble_eq_true rfl⟩) ⟨fun a U g mk q => ⟨q.1, q.2.1, va_K.moved (u := U) (U := U.calling g mk a) (Vm.Alike.refl U.vm) q.2.2⟩, va_recv hK hPc (ci := 5) (q0 := 0) rfl rfl, fun U hU hW => ⟨rfl, by rw [hU]; exact hPc, va_K.moved hW.alike hK⟩⟩ rfl rfl hl.1 rfl (lv_room (Nat.le_of_ble_eq_true rfl)) dX6_place_2 ⟨Nat.le_of_ble_eq_true rfl, Nat.le_of_ble_eq_true rfl⟩).run (fun r hr2 => ?_)
  obtain rfl := hr2
  refine z_ifb_eq (P := inR R (i)) (tgt := 37) hx hb dX6_place_5 (by decide) (fun c5 => ?_) (fun c5 => ?_)
  · refine lv_iconst (v := zI 0) hx hb dX6_place_37 rfl ?_
    exact W.iret (v := (zI (0))) hx hb hr (fun tq ht hW => ⟨_, rfl, by rw [sp_place, if_neg (fun z => c5 z.1)], ht⟩) (fun q h => by cases h) dX6_place_38
  · have h1 := RV_at gV c5
    refine lv_iload_n hx hb dX6_place_8 rfl (lv_at hl 2 rfl) ?_
    refine lv_iconst (v := zI 0) hx hb dX6_place_9 rfl ?_
    refine lv_aload_n hx hb dX6_place_10 rfl (lv_at hl 0 rfl) ?_
    refine va_get (D := D) (ci := 5) (v := .ref (a 0)) (C := RX6) (T := TX6) (N := 7) hx hb hts iX6 hown hK hP 0 rfl rfl 0 (by decide) (hts (.fieldLink RX6 9 "CancelRows" "lengths" "[I") (by decide +kernel)) (fun _ h9 => h9) rfl dX6_place_11 ?_
    refine lv_iload_n hx hb dX6_place_14 rfl (lv_at hl 1 rfl) ?_
    refine z_iald hx hb hK hP 1 0 rfl rfl (i.toNat) (by omega) (by omega) (by omega) dX6_place_15 ?_
    refine z_re (e2 := ((F (i.toNat) : Nat) : Int)) (rfl) ?_
    refine lv_iconst (v := zI 1) hx hb dX6_place_16 rfl ?_
    refine z_isub hx hb dX6_place_17 ?_
    refine vp_callSi (va_runS (As := [.int (zI (j)), .int (zI (0)), .int (zI ((((F (i.toNat) : Nat) : Int)) - (1)))]) (rest := []) ⟨hx, hb, hml, hown, hts⟩ (c_X6_within l j 0 (((F i.toNat : Nat) : Int) - 1) gj (by omega) (by omega)) (va_cwS 3 hts gX6_place_X6_within rfl rfl rfl (by decide +kernel) ⟨Nat.le_of_ble_eq_true rfl, Nat.le_of_ble_eq_true rfl⟩) ⟨fun a U g mk q => q, fun U hU hW => ⟨rfl, trivial⟩⟩ rfl rfl hl.1 rfl (lv_room (Nat.le_of_ble_eq_true rfl)) dX6_place_18 ⟨Nat.le_of_ble_eq_true rfl, Nat.le_of_ble_eq_true rfl⟩).run (fun r hr18 => ?_)
    obtain rfl := hr18
    refine z_ifb_eq (P := (0) ≤ (j) ∧ (j) ≤ ((((F (i.toNat) : Nat) : Int)) - (1))) (tgt := 37) hx hb dX6_place_21 (by decide) (fun c21 => ?_) (fun c21 => ?_)
    · refine lv_iconst (v := zI 0) hx hb dX6_place_37 rfl ?_
      exact W.iret (v := (zI (0))) hx hb hr (fun tq ht hW => ⟨_, rfl, by rw [sp_place, if_neg (fun z => c21 (by omega))], ht⟩) (fun q h => by cases h) dX6_place_38
    · refine lv_aload_n hx hb dX6_place_24 rfl (lv_at hl 0 rfl) ?_
      refine va_get (D := D) (ci := 5) (v := .ref (a 1)) (C := RX6) (T := TX6) (N := 7) hx hb hts iX6 hown hK hP 0 rfl rfl 1 (by decide) (hts (.fieldLink RX6 13 "CancelRows" "numbers" "[J") (by decide +kernel)) (fun _ h9 => h9) rfl dX6_place_25 ?_
      refine lv_iload_n hx hb dX6_place_28 rfl (lv_at hl 1 rfl) ?_
      refine l_lald hx hb hK hP 2 1 rfl rfl (i.toNat) (by omega) (by omega) (by omega) dX6_place_29 ?_
      refine lv_iload_n hx hb dX6_place_30 rfl (lv_at hl 2 rfl) ?_
      refine z_re (e2 := ((j.toNat : Nat) : Int)) (by omega) ?_
      refine vp_callSi (va_runS (As := [.long (lN ((G) (i.toNat))), .int (zI (((j.toNat : Nat) : Int)))]) (rest := []) ⟨hx, hb, hml, hown, hts⟩ (c_X3_sign l (G i.toNat) j.toNat (lt32 h1.2.2 h1.2.1) (by omega)) (va_cwS 2 hts gX6_place_X3_sign rfl rfl rfl (by decide +kernel) ⟨Nat.le_of_ble_eq_true rfl, Nat.le_of_ble_eq_true rfl⟩) ⟨fun a U g mk q => q, fun U hU hW => ⟨rfl, trivial⟩⟩ rfl rfl hl.1 rfl (lv_room (Nat.le_of_ble_eq_true rfl)) dX6_place_31 ⟨Nat.le_of_ble_eq_true rfl, Nat.le_of_ble_eq_true rfl⟩).run (fun r hr31 => ?_)
      obtain rfl := hr31
      refine lv_goto (tgt := 38) hx hb dX6_place_34 (by decide) ?_
      exact W.iret (v := (zI (pm ((G) (i.toNat)) (j.toNat)))) hx hb hr (fun tq ht hW => ⟨_, rfl, by rw [sp_place, if_pos (by omega)], ht⟩) (fun q h => by cases h) dX6_place_38

-- X6_open
set_option maxHeartbeats 4000000 in
set_option maxRecDepth 100000 in
theorem c_X6_open (l : Launch) (D : va_G) (t : Nat → ClassId) (x : Nat) (a : Nat → Nat) (R : Nat) (F G : Nat → Nat) (gV : RV R F G) (i j : Int) (gi : -2147483648 ≤ i ∧ i < 2147483648) (gj : -2147483648 ≤ j ∧ j < 2147483648) : Met l yX6_open wsX6_open ({ frames := 2, cells := 0, slots := 0, locals := 45 }) (va_Pc [.ref x, .int (zI (i)), .int (zI (j))] (fun U => va_P D vwCl ([oX x a (((R : Nat) : Int)), aI t (a 0) 24 (cN F), aJ t (a 1) 24 (G)]) U.heap ∧ va_K D vwCl (TY t) U)) (vp_Si (fun r => r = zI (sp_open R F G i j))) 0 0 (fun _ => False) := by
  refine Met.ofW (cc := cX6_open) (maxL := 3) (ret := (some .int)) (by decide) rfl ?_
  intro p e s m args below meth c s₁ B hml hv
  obtain ⟨rfl, hP, hK⟩ := hv
  have hx := B.exec
  have hb := B.bytes
  have hr := B.returns
  have hts := atoms_spec (ws := wsX6_open) B.pre
  have hown : s.vm.findClass RX6 = some m.cls := findClass_of_methodNamed B.named
  have hlocks := B.notSynchronized
  have hl := lv_entry ([.ref x, .int (zI (i)), .int (zI (j))]) (n := 3) (Nat.le_of_ble_eq_true rfl)
  rw [lg_entry_eq]
  generalize (lg_sl ([.ref x, .int (zI (i)), .int (zI (j))]) ++ List.replicate (3 - (lg_sl ([.ref x, .int (zI (i)), .int (zI (j))])).length) Slot.unset).toArray = ls at hl ⊢
  have hl : lv_has ls 3 [(0, .ref x), (1, .int (zI (i))), (2, .int (zI (j)))] := hl
  have iX6 : ∀ w ∈ u_ws RX6 TX6 7, w ∈ wsX6_open := by decide +kernel
  have gR := gV.1
  refine lv_aload_n hx hb dX6_open_0 rfl (lv_at hl 0 rfl) ?_
  refine lv_iload_n hx hb dX6_open_1 rfl (lv_at hl 1 rfl) ?_
  have hPc := hP.sub (ws' := [oX x a (((R : Nat) : Int))]) [0] rfl
  refine vp_callSi (va_runV (As := [.int (zI (i))]) (rest := []) ⟨hx, hb, hml, hown, hts⟩ (c_X6_isRow l D t x a R gV.1 i gi) (cwV 1 hts gX6_open_X6_isRow rfl rfl rfl (by decide +kernel) ⟨Nat.le_of_ble_eq_true rfl, Nat.le_of_ble_eq_true rfl⟩) ⟨fun a U g mk q => ⟨q.1, q.2.1, va_K.moved (u := U) (U := U.calling g mk a) (Vm.Alike.refl U.vm) q.2.2⟩, va_recv hK hPc (ci := 5) (q0 := 0) rfl rfl, fun U hU hW => ⟨rfl, by rw [hU]; exact hPc, va_K.moved hW.alike hK⟩⟩ rfl rfl hl.1 rfl (lv_room (Nat.le_of_ble_eq_true rfl)) dX6_open_2 ⟨Nat.le_of_ble_eq_true rfl, Nat.le_of_ble_eq_true rfl⟩).run (fun r hr2 => ?_)
  obtain rfl := hr2
  refine z_ifb_eq (P := inR R (i)) (tgt := 43) hx hb dX6_open_5 (by decide) (fun c5 => ?_) (fun c5 => ?_)
  · refine lv_sipush (v := zI 1000) hx hb dX6_open_43 (by decide +kernel) ?_
    exact W.iret (v := (zI (1000))) hx hb hr (fun tq ht hW => ⟨_, rfl, by rw [sp_open, if_neg (fun z => c5 z.1)], ht⟩) (fun q h => by cases h) dX6_open_46
  · have h1 := RV_at gV c5
    refine lv_iload_n hx hb dX6_open_8 rfl (lv_at hl 2 rfl) ?_
    refine lv_iconst (v := zI 0) hx hb dX6_open_9 rfl ?_
    refine lv_aload_n hx hb dX6_open_10 rfl (lv_at hl 0 rfl) ?_
    refine va_get (D := D) (ci := 5) (v := .ref (a 0)) (C := RX6) (T := TX6) (N := 7) hx hb hts iX6 hown hK hP 0 rfl rfl 0 (by decide) (hts (.fieldLink RX6 9 "CancelRows" "lengths" "[I") (by decide +kernel)) (fun _ h9 => h9) rfl dX6_open_11 ?_
    refine lv_iload_n hx hb dX6_open_14 rfl (lv_at hl 1 rfl) ?_
    refine z_iald hx hb hK hP 1 0 rfl rfl (i.toNat) (by omega) (by omega) (by omega) dX6_open_15 ?_
    refine z_re (e2 := ((F (i.toNat) : Nat) : Int)) (rfl) ?_
    refine lv_iconst (v := zI 1) hx hb dX6_open_16 rfl ?_
    refine z_isub hx hb dX6_open_17 ?_
    refine vp_callSi (va_runS (As := [.int (zI (j)), .int (zI (0)), .int (zI ((((F (i.toNat) : Nat) : Int)) - (1)))]) (rest := []) ⟨hx, hb, hml, hown, hts⟩ (c_X6_within l j 0 (((F i.toNat : Nat) : Int) - 1) gj (by omega) (by omega)) (va_cwS 3 hts gX6_open_X6_within rfl rfl rfl (by decide +kernel) ⟨Nat.le_of_ble_eq_true rfl, Nat.le_of_ble_eq_true rfl⟩) ⟨fun a U g mk q => q, fun U hU hW => ⟨rfl, trivial⟩⟩ rfl rfl hl.1 rfl (lv_room (Nat.le_of_ble_eq_true rfl)) dX6_open_18 ⟨Nat.le_of_ble_eq_true rfl, Nat.le_of_ble_eq_true rfl⟩).run (fun r hr18 => ?_)
    obtain rfl := hr18
    refine z_ifb_eq (P := (0) ≤ (j) ∧ (j) ≤ ((((F (i.toNat) : Nat) : Int)) - (1))) (tgt := 43) hx hb dX6_open_21 (by decide) (fun c21 => ?_) (fun c21 => ?_)
    · refine lv_sipush (v := zI 1000) hx hb dX6_open_43 (by decide +kernel) ?_
      exact W.iret (v := (zI (1000))) hx hb hr (fun tq ht hW => ⟨_, rfl, by rw [sp_open, if_neg (fun z => c21 (by omega))], ht⟩) (fun q h => by cases h) dX6_open_46
    · refine lv_aload_n hx hb dX6_open_24 rfl (lv_at hl 0 rfl) ?_
      refine va_get (D := D) (ci := 5) (v := .ref (a 1)) (C := RX6) (T := TX6) (N := 7) hx hb hts iX6 hown hK hP 0 rfl rfl 1 (by decide) (hts (.fieldLink RX6 13 "CancelRows" "numbers" "[J") (by decide +kernel)) (fun _ h9 => h9) rfl dX6_open_25 ?_
      refine lv_iload_n hx hb dX6_open_28 rfl (lv_at hl 1 rfl) ?_
      refine l_lald hx hb hK hP 2 1 rfl rfl (i.toNat) (by omega) (by omega) (by omega) dX6_open_29 ?_
      refine lv_aload_n hx hb dX6_open_30 rfl (lv_at hl 0 rfl) ?_
      refine va_get (D := D) (ci := 5) (v := .ref (a 0)) (C := RX6) (T := TX6) (N := 7) hx hb hts iX6 hown hK hP 0 rfl rfl 0 (by decide) (hts (.fieldLink RX6 9 "CancelRows" "lengths" "[I") (by decide +kernel)) (fun _ h9 => h9) rfl dX6_open_31 ?_
      refine lv_iload_n hx hb dX6_open_34 rfl (lv_at hl 1 rfl) ?_
      refine z_iald hx hb hK hP 1 0 rfl rfl (i.toNat) (by omega) (by omega) (by omega) dX6_open_35 ?_
      refine z_re (e2 := ((F (i.toNat) : Nat) : Int)) (rfl) ?_
      refine lv_iload_n hx hb dX6_open_36 rfl (lv_at hl 2 rfl) ?_
      refine z_re (e2 := ((j.toNat : Nat) : Int)) (by omega) ?_
      refine vp_callSi (va_runS (As := [.long (lN ((G) (i.toNat))), .int (zI (((F (i.toNat) : Nat) : Int))), .int (zI (((j.toNat : Nat) : Int)))]) (rest := []) ⟨hx, hb, hml, hown, hts⟩ (c_X3_openSum l (G i.toNat) (F i.toNat) j.toNat h1.2.1 (by omega) h1.2.2) (va_cwS 3 hts gX6_open_X3_openSum rfl rfl rfl (by decide +kernel) ⟨Nat.le_of_ble_eq_true rfl, Nat.le_of_ble_eq_true rfl⟩) ⟨fun a U g mk q => q, fun U hU hW => ⟨rfl, trivial⟩⟩ rfl rfl hl.1 rfl (lv_room (Nat.le_of_ble_eq_true rfl)) dX6_open_37 ⟨Nat.le_of_ble_eq_true rfl, Nat.le_of_ble_eq_true rfl⟩).run (fun r hr37 => ?_)
      obtain rfl := hr37
      refine lv_goto (tgt := 46) hx hb dX6_open_40 (by decide) ?_
      exact W.iret (v := (zI (oS (F (i.toNat)) ((G) (i.toNat)) (j.toNat)))) hx hb hr (fun tq ht hW => ⟨_, rfl, by rw [sp_open, if_pos (by omega)], ht⟩) (fun q h => by cases h) dX6_open_46

-- X6_round
set_option maxHeartbeats 4000000 in
set_option maxRecDepth 100000 in
theorem c_X6_round (l : Launch) (D : va_G) (t : Nat → ClassId) (x : Nat) (a : Nat → Nat) (R : Nat) (F G : Nat → Nat) (gV : RV R F G) (i j : Int) (gi : -2147483648 ≤ i ∧ i < 2147483648) (gj : -2147483648 ≤ j ∧ j < 2147483648) : Met l yX6_round wsX6_round ({ frames := 2, cells := 0, slots := 0, locals := 46 }) (va_Pc [.ref x, .int (zI (i)), .int (zI (j))] (fun U => va_P D vwCl ([oX x a (((R : Nat) : Int)), aI t (a 0) 24 (cN F), aJ t (a 1) 24 (G)]) U.heap ∧ va_K D vwCl (TY t) U)) (vp_Si (fun r => r = zI (sp_round R F G i j))) 0 0 (fun _ => False) := by
  refine Met.ofW (cc := cX6_round) (maxL := 3) (ret := (some .int)) (by decide) rfl ?_
  intro p e s m args below meth c s₁ B hml hv
  obtain ⟨rfl, hP, hK⟩ := hv
  have hx := B.exec
  have hb := B.bytes
  have hr := B.returns
  have hts := atoms_spec (ws := wsX6_round) B.pre
  have hown : s.vm.findClass RX6 = some m.cls := findClass_of_methodNamed B.named
  have hlocks := B.notSynchronized
  have hl := lv_entry ([.ref x, .int (zI (i)), .int (zI (j))]) (n := 3) (Nat.le_of_ble_eq_true rfl)
  rw [lg_entry_eq]
  generalize (lg_sl ([.ref x, .int (zI (i)), .int (zI (j))]) ++ List.replicate (3 - (lg_sl ([.ref x, .int (zI (i)), .int (zI (j))])).length) Slot.unset).toArray = ls at hl ⊢
  have hl : lv_has ls 3 [(0, .ref x), (1, .int (zI (i))), (2, .int (zI (j)))] := hl
  have iX6 : ∀ w ∈ u_ws RX6 TX6 7, w ∈ wsX6_round := by decide +kernel
  have gR := gV.1
  refine lv_aload_n hx hb dX6_round_0 rfl (lv_at hl 0 rfl) ?_
  refine lv_iload_n hx hb dX6_round_1 rfl (lv_at hl 1 rfl) ?_
  have hPc := hP.sub (ws' := [oX x a (((R : Nat) : Int))]) [0] rfl
  refine vp_callSi (va_runV (As := [.int (zI (i))]) (rest := []) ⟨hx, hb, hml, hown, hts⟩ (c_X6_isRow l D t x a R gV.1 i gi) (cwV 1 hts gX6_round_X6_isRow rfl rfl rfl (by decide +kernel) ⟨Nat.le_of_ble_eq_true rfl, Nat.le_of_ble_eq_true rfl⟩) ⟨fun a U g mk q => ⟨q.1, q.2.1, va_K.moved (u := U) (U := U.calling g mk a) (Vm.Alike.refl U.vm) q.2.2⟩, va_recv hK hPc (ci := 5) (q0 := 0) rfl rfl, fun U hU hW => ⟨rfl, by rw [hU]; exact hPc, va_K.moved hW.alike hK⟩⟩ rfl rfl hl.1 rfl (lv_room (Nat.le_of_ble_eq_true rfl)) dX6_round_2 ⟨Nat.le_of_ble_eq_true rfl, Nat.le_of_ble_eq_true rfl⟩).run (fun r hr2 => ?_)
  obtain rfl := hr2
  refine z_ifb_eq (P := inR R (i)) (tgt := 43) hx hb dX6_round_5 (by decide) (fun c5 => ?_) (fun c5 => ?_)
  · refine lv_sipush (v := zI 1000) hx hb dX6_round_43 (by decide +kernel) ?_
    exact W.iret (v := (zI (1000))) hx hb hr (fun tq ht hW => ⟨_, rfl, by rw [sp_round, if_neg (fun z => c5 z.1)], ht⟩) (fun q h => by cases h) dX6_round_46
  · have h1 := RV_at gV c5
    refine lv_iload_n hx hb dX6_round_8 rfl (lv_at hl 2 rfl) ?_
    refine lv_iconst (v := zI 0) hx hb dX6_round_9 rfl ?_
    refine lv_aload_n hx hb dX6_round_10 rfl (lv_at hl 0 rfl) ?_
    refine va_get (D := D) (ci := 5) (v := .ref (a 0)) (C := RX6) (T := TX6) (N := 7) hx hb hts iX6 hown hK hP 0 rfl rfl 0 (by decide) (hts (.fieldLink RX6 9 "CancelRows" "lengths" "[I") (by decide +kernel)) (fun _ h9 => h9) rfl dX6_round_11 ?_
    refine lv_iload_n hx hb dX6_round_14 rfl (lv_at hl 1 rfl) ?_
    refine z_iald hx hb hK hP 1 0 rfl rfl (i.toNat) (by omega) (by omega) (by omega) dX6_round_15 ?_
    refine z_re (e2 := ((F (i.toNat) : Nat) : Int)) (rfl) ?_
    refine lv_iconst (v := zI 1) hx hb dX6_round_16 rfl ?_
    refine z_isub hx hb dX6_round_17 ?_
    refine vp_callSi (va_runS (As := [.int (zI (j)), .int (zI (0)), .int (zI ((((F (i.toNat) : Nat) : Int)) - (1)))]) (rest := []) ⟨hx, hb, hml, hown, hts⟩ (c_X6_within l j 0 (((F i.toNat : Nat) : Int) - 1) gj (by omega) (by omega)) (va_cwS 3 hts gX6_round_X6_within rfl rfl rfl (by decide +kernel) ⟨Nat.le_of_ble_eq_true rfl, Nat.le_of_ble_eq_true rfl⟩) ⟨fun a U g mk q => q, fun U hU hW => ⟨rfl, trivial⟩⟩ rfl rfl hl.1 rfl (lv_room (Nat.le_of_ble_eq_true rfl)) dX6_round_18 ⟨Nat.le_of_ble_eq_true rfl, Nat.le_of_ble_eq_true rfl⟩).run (fun r hr18 => ?_)
    obtain rfl := hr18
    refine z_ifb_eq (P := (0) ≤ (j) ∧ (j) ≤ ((((F (i.toNat) : Nat) : Int)) - (1))) (tgt := 43) hx hb dX6_round_21 (by decide) (fun c21 => ?_) (fun c21 => ?_)
    · refine lv_sipush (v := zI 1000) hx hb dX6_round_43 (by decide +kernel) ?_
      exact W.iret (v := (zI (1000))) hx hb hr (fun tq ht hW => ⟨_, rfl, by rw [sp_round, if_neg (fun z => c21 (by omega))], ht⟩) (fun q h => by cases h) dX6_round_46
    · refine lv_aload_n hx hb dX6_round_24 rfl (lv_at hl 0 rfl) ?_
      refine va_get (D := D) (ci := 5) (v := .ref (a 1)) (C := RX6) (T := TX6) (N := 7) hx hb hts iX6 hown hK hP 0 rfl rfl 1 (by decide) (hts (.fieldLink RX6 13 "CancelRows" "numbers" "[J") (by decide +kernel)) (fun _ h9 => h9) rfl dX6_round_25 ?_
      refine lv_iload_n hx hb dX6_round_28 rfl (lv_at hl 1 rfl) ?_
      refine l_lald hx hb hK hP 2 1 rfl rfl (i.toNat) (by omega) (by omega) (by omega) dX6_round_29 ?_
      refine lv_aload_n hx hb dX6_round_30 rfl (lv_at hl 0 rfl) ?_
      refine va_get (D := D) (ci := 5) (v := .ref (a 0)) (C := RX6) (T := TX6) (N := 7) hx hb hts iX6 hown hK hP 0 rfl rfl 0 (by decide) (hts (.fieldLink RX6 9 "CancelRows" "lengths" "[I") (by decide +kernel)) (fun _ h9 => h9) rfl dX6_round_31 ?_
      refine lv_iload_n hx hb dX6_round_34 rfl (lv_at hl 1 rfl) ?_
      refine z_iald hx hb hK hP 1 0 rfl rfl (i.toNat) (by omega) (by omega) (by omega) dX6_round_35 ?_
      refine z_re (e2 := ((F (i.toNat) : Nat) : Int)) (rfl) ?_
      refine lv_iload_n hx hb dX6_round_36 rfl (lv_at hl 2 rfl) ?_
      refine z_re (e2 := ((j.toNat : Nat) : Int)) (by omega) ?_
      refine vp_callSi (va_runS (As := [.long (lN ((G) (i.toNat))), .int (zI (((F (i.toNat) : Nat) : Int))), .int (zI (((j.toNat : Nat) : Int)))]) (rest := []) ⟨hx, hb, hml, hown, hts⟩ (c_X3_roundSum l (G i.toNat) (F i.toNat) j.toNat h1.2.1 (by omega) h1.2.2) (va_cwS 3 hts gX6_round_X3_roundSum rfl rfl rfl (by decide +kernel) ⟨Nat.le_of_ble_eq_true rfl, Nat.le_of_ble_eq_true rfl⟩) ⟨fun a U g mk q => q, fun U hU hW => ⟨rfl, trivial⟩⟩ rfl rfl hl.1 rfl (lv_room (Nat.le_of_ble_eq_true rfl)) dX6_round_37 ⟨Nat.le_of_ble_eq_true rfl, Nat.le_of_ble_eq_true rfl⟩).run (fun r hr37 => ?_)
      obtain rfl := hr37
      refine lv_goto (tgt := 46) hx hb dX6_round_40 (by decide) ?_
      exact W.iret (v := (zI (rS (F (i.toNat)) ((G) (i.toNat)) (j.toNat)))) hx hb hr (fun tq ht hW => ⟨_, rfl, by rw [sp_round, if_pos (by omega)], ht⟩) (fun q h => by cases h) dX6_round_46

-- about
set_option maxHeartbeats 4000000 in
set_option maxRecDepth 100000 in
theorem c_X6_about (l : Launch) (D : va_G) (t : Nat → ClassId) (x : Nat) (a : Nat → Nat) (R : Nat) (F G : Nat → Nat) (gV : RV R F G) (i w : Int) (gi : -2147483648 ≤ i ∧ i < 2147483648) (gw : -2147483648 ≤ w ∧ w < 2147483648) : Met l yX6_about wsX6_about ({ frames := 5, cells := 0, slots := 0, locals := 117 }) (va_Pc [.ref x, .int (zI (i)), .int (zI (w))] (fun U => va_P D vwCl ([oX x a (((R : Nat) : Int)), aI t (a 0) 24 (cN F), aJ t (a 1) 24 (G)]) U.heap ∧ va_K D vwCl (TY t) U)) (vp_Si (fun r => r = zI (sp_about R F G i w))) 0 0 (fun _ => False) := by
  refine Met.ofW (cc := cX6_about) (maxL := 3) (ret := (some .int)) (by decide) rfl ?_
  intro p e s m args below meth c s₁ B hml hv
  obtain ⟨rfl, hP, hK⟩ := hv
  have hx := B.exec
  have hb := B.bytes
  have hr := B.returns
  have hts := atoms_spec (ws := wsX6_about) B.pre
  have hown : s.vm.findClass RX6 = some m.cls := findClass_of_methodNamed B.named
  have hlocks := B.notSynchronized
  have hl := lv_entry ([.ref x, .int (zI (i)), .int (zI (w))]) (n := 3) (Nat.le_of_ble_eq_true rfl)
  rw [lg_entry_eq]
  generalize (lg_sl ([.ref x, .int (zI (i)), .int (zI (w))]) ++ List.replicate (3 - (lg_sl ([.ref x, .int (zI (i)), .int (zI (w))])).length) Slot.unset).toArray = ls at hl ⊢
  have hl : lv_has ls 3 [(0, .ref x), (1, .int (zI (i))), (2, .int (zI (w)))] := hl
  have iX6 : ∀ w ∈ u_ws RX6 TX6 7, w ∈ wsX6_about := by decide +kernel
  have gR := gV.1
  refine lv_aload_n hx hb dX6_about_0 rfl (lv_at hl 0 rfl) ?_
  refine lv_iload_n hx hb dX6_about_1 rfl (lv_at hl 1 rfl) ?_
  have hPc := hP.sub (ws' := [oX x a (((R : Nat) : Int))]) [0] rfl
  refine vp_callSi (va_runV (As := [.int (zI (i))]) (rest := []) ⟨hx, hb, hml, hown, hts⟩ (c_X6_isRow l D t x a R gV.1 i gi) (cwV 1 hts gX6_about_X6_isRow rfl rfl rfl (by decide +kernel) ⟨Nat.le_of_ble_eq_true rfl, Nat.le_of_ble_eq_true rfl⟩) ⟨fun a U g mk q => ⟨q.1, q.2.1, va_K.moved (u := U) (U := U.calling g mk a) (Vm.Alike.refl U.vm) q.2.2⟩, va_recv hK hPc (ci := 5) (q0 := 0) rfl rfl, fun U hU hW => ⟨rfl, by rw [hU]; exact hPc, va_K.moved hW.alike hK⟩⟩ rfl rfl hl.1 rfl (lv_room (Nat.le_of_ble_eq_true rfl)) dX6_about_2 ⟨Nat.le_of_ble_eq_true rfl, Nat.le_of_ble_eq_true rfl⟩).run (fun r hr2 => ?_)
  obtain rfl := hr2
  refine z_ifb_ne (P := inR R (i)) (tgt := 10) hx hb dX6_about_5 (by decide) (fun c5 => ?_) (fun c5 => ?_)
  · have h1 := RV_at gV c5
    refine lv_iload_n hx hb dX6_about_10 rfl (lv_at hl 2 rfl) ?_
    rcases (show (w) = 0 ∨ (w) = 1 ∨ (w) = 2 ∨ (w) = 3 ∨ (w) = 4 ∨ ((w) < 0 ∨ 4 < (w)) by omega) with hw11 | hw11 | hw11 | hw11 | hw11 | hw11
    · refine z_tableIn (off := 33) (tgt := 44) hx hb 0 dX6_about_11 (by omega) (by omega) (by omega) rfl (by decide) ?_
      refine lv_aload_n hx hb dX6_about_44 rfl (lv_at hl 0 rfl) ?_
      refine va_get (D := D) (ci := 5) (v := .ref (a 1)) (C := RX6) (T := TX6) (N := 7) hx hb hts iX6 hown hK hP 0 rfl rfl 1 (by decide) (hts (.fieldLink RX6 13 "CancelRows" "numbers" "[J") (by decide +kernel)) (fun _ h9 => h9) rfl dX6_about_45 ?_
      refine lv_iload_n hx hb dX6_about_48 rfl (lv_at hl 1 rfl) ?_
      refine l_lald hx hb hK hP 2 1 rfl rfl (i.toNat) (by omega) (by omega) (by omega) dX6_about_49 ?_
      refine lv_aload_n hx hb dX6_about_50 rfl (lv_at hl 0 rfl) ?_
      refine va_get (D := D) (ci := 5) (v := .ref (a 0)) (C := RX6) (T := TX6) (N := 7) hx hb hts iX6 hown hK hP 0 rfl rfl 0 (by decide) (hts (.fieldLink RX6 9 "CancelRows" "lengths" "[I") (by decide +kernel)) (fun _ h9 => h9) rfl dX6_about_51 ?_
      refine lv_iload_n hx hb dX6_about_54 rfl (lv_at hl 1 rfl) ?_
      refine z_iald hx hb hK hP 1 0 rfl rfl (i.toNat) (by omega) (by omega) (by omega) dX6_about_55 ?_
      refine z_re (e2 := ((F (i.toNat) : Nat) : Int)) (rfl) ?_
      refine vp_callSi (va_runS (As := [.long (lN ((G) (i.toNat))), .int (zI (((F (i.toNat) : Nat) : Int)))]) (rest := []) ⟨hx, hb, hml, hown, hts⟩ (c_X3_peak l (G i.toNat) (F i.toNat) h1.2.1 h1.1 h1.2.2) (va_cwS 2 hts gX6_about_X3_peak rfl rfl rfl (by decide +kernel) ⟨Nat.le_of_ble_eq_true rfl, Nat.le_of_ble_eq_true rfl⟩) ⟨fun a U g mk q => q, fun U hU hW => ⟨rfl, trivial⟩⟩ rfl rfl hl.1 rfl (lv_room (Nat.le_of_ble_eq_true rfl)) dX6_about_56 ⟨Nat.le_of_ble_eq_true rfl, Nat.le_of_ble_eq_true rfl⟩).run (fun r hr56 => ?_)
      obtain rfl := hr56
      exact W.iret (v := (zI (((pkL (F (i.toNat)) ((G) (i.toNat)) (F (i.toNat)) : Nat) : Int)))) hx hb hr (fun tq ht hW => ⟨_, rfl, by rw [sp_about, if_pos c5, if_pos hw11], ht⟩) (fun q h => by cases h) dX6_about_59
    · refine z_tableIn (off := 49) (tgt := 60) hx hb 1 dX6_about_11 (by omega) (by omega) (by omega) rfl (by decide) ?_
      refine lv_aload_n hx hb dX6_about_60 rfl (lv_at hl 0 rfl) ?_
      refine va_get (D := D) (ci := 5) (v := .ref (a 1)) (C := RX6) (T := TX6) (N := 7) hx hb hts iX6 hown hK hP 0 rfl rfl 1 (by decide) (hts (.fieldLink RX6 13 "CancelRows" "numbers" "[J") (by decide +kernel)) (fun _ h9 => h9) rfl dX6_about_61 ?_
      refine lv_iload_n hx hb dX6_about_64 rfl (lv_at hl 1 rfl) ?_
      refine l_lald hx hb hK hP 2 1 rfl rfl (i.toNat) (by omega) (by omega) (by omega) dX6_about_65 ?_
      refine lv_aload_n hx hb dX6_about_66 rfl (lv_at hl 0 rfl) ?_
      refine va_get (D := D) (ci := 5) (v := .ref (a 0)) (C := RX6) (T := TX6) (N := 7) hx hb hts iX6 hown hK hP 0 rfl rfl 0 (by decide) (hts (.fieldLink RX6 9 "CancelRows" "lengths" "[I") (by decide +kernel)) (fun _ h9 => h9) rfl dX6_about_67 ?_
      refine lv_iload_n hx hb dX6_about_70 rfl (lv_at hl 1 rfl) ?_
      refine z_iald hx hb hK hP 1 0 rfl rfl (i.toNat) (by omega) (by omega) (by omega) dX6_about_71 ?_
      refine z_re (e2 := ((F (i.toNat) : Nat) : Int)) (rfl) ?_
      refine vp_callSi (va_runS (As := [.long (lN ((G) (i.toNat))), .int (zI (((F (i.toNat) : Nat) : Int)))]) (rest := []) ⟨hx, hb, hml, hown, hts⟩ (c_X3_energy l (G i.toNat) (F i.toNat) h1.2.1 h1.1 h1.2.2) (va_cwS 2 hts gX6_about_X3_energy rfl rfl rfl (by decide +kernel) ⟨Nat.le_of_ble_eq_true rfl, Nat.le_of_ble_eq_true rfl⟩) ⟨fun a U g mk q => q, fun U hU hW => ⟨rfl, trivial⟩⟩ rfl rfl hl.1 rfl (lv_room (Nat.le_of_ble_eq_true rfl)) dX6_about_72 ⟨Nat.le_of_ble_eq_true rfl, Nat.le_of_ble_eq_true rfl⟩).run (fun r hr72 => ?_)
      obtain rfl := hr72
      exact W.iret (v := (zI (enL (F (i.toNat)) ((G) (i.toNat)) (F (i.toNat))))) hx hb hr (fun tq ht hW => ⟨_, rfl, by rw [sp_about, if_pos c5, if_neg (by omega), if_pos hw11], ht⟩) (fun q h => by cases h) dX6_about_75
    · refine z_tableIn (off := 65) (tgt := 76) hx hb 2 dX6_about_11 (by omega) (by omega) (by omega) rfl (by decide) ?_
      refine lv_aload_n hx hb dX6_about_76 rfl (lv_at hl 0 rfl) ?_
      refine va_get (D := D) (ci := 5) (v := .ref (a 1)) (C := RX6) (T := TX6) (N := 7) hx hb hts iX6 hown hK hP 0 rfl rfl 1 (by decide) (hts (.fieldLink RX6 13 "CancelRows" "numbers" "[J") (by decide +kernel)) (fun _ h9 => h9) rfl dX6_about_77 ?_
      refine lv_iload_n hx hb dX6_about_80 rfl (lv_at hl 1 rfl) ?_
      refine l_lald hx hb hK hP 2 1 rfl rfl (i.toNat) (by omega) (by omega) (by omega) dX6_about_81 ?_
      refine lv_aload_n hx hb dX6_about_82 rfl (lv_at hl 0 rfl) ?_
      refine va_get (D := D) (ci := 5) (v := .ref (a 0)) (C := RX6) (T := TX6) (N := 7) hx hb hts iX6 hown hK hP 0 rfl rfl 0 (by decide) (hts (.fieldLink RX6 9 "CancelRows" "lengths" "[I") (by decide +kernel)) (fun _ h9 => h9) rfl dX6_about_83 ?_
      refine lv_iload_n hx hb dX6_about_86 rfl (lv_at hl 1 rfl) ?_
      refine z_iald hx hb hK hP 1 0 rfl rfl (i.toNat) (by omega) (by omega) (by omega) dX6_about_87 ?_
      refine z_re (e2 := ((F (i.toNat) : Nat) : Int)) (rfl) ?_
      refine vp_callSi (va_runS (As := [.long (lN ((G) (i.toNat))), .int (zI (((F (i.toNat) : Nat) : Int)))]) (rest := []) ⟨hx, hb, hml, hown, hts⟩ (c_X3_total l (G i.toNat) (F i.toNat) h1.2.1 h1.2.2) (va_cwS 2 hts gX6_about_X3_total rfl rfl rfl (by decide +kernel) ⟨Nat.le_of_ble_eq_true rfl, Nat.le_of_ble_eq_true rfl⟩) ⟨fun a U g mk q => q, fun U hU hW => ⟨rfl, trivial⟩⟩ rfl rfl hl.1 rfl (lv_room (Nat.le_of_ble_eq_true rfl)) dX6_about_88 ⟨Nat.le_of_ble_eq_true rfl, Nat.le_of_ble_eq_true rfl⟩).run (fun r hr88 => ?_)
      obtain rfl := hr88
      exact W.iret (v := (zI (tot (F (i.toNat)) ((G) (i.toNat))))) hx hb hr (fun tq ht hW => ⟨_, rfl, by rw [sp_about, if_pos c5, if_neg (by omega), if_neg (by omega), if_pos hw11], ht⟩) (fun q h => by cases h) dX6_about_91
    · refine z_tableIn (off := 81) (tgt := 92) hx hb 3 dX6_about_11 (by omega) (by omega) (by omega) rfl (by decide) ?_
      refine lv_aload_n hx hb dX6_about_92 rfl (lv_at hl 0 rfl) ?_
      refine va_get (D := D) (ci := 5) (v := .ref (a 1)) (C := RX6) (T := TX6) (N := 7) hx hb hts iX6 hown hK hP 0 rfl rfl 1 (by decide) (hts (.fieldLink RX6 13 "CancelRows" "numbers" "[J") (by decide +kernel)) (fun _ h9 => h9) rfl dX6_about_93 ?_
      refine lv_iload_n hx hb dX6_about_96 rfl (lv_at hl 1 rfl) ?_
      refine l_lald hx hb hK hP 2 1 rfl rfl (i.toNat) (by omega) (by omega) (by omega) dX6_about_97 ?_
      refine lv_aload_n hx hb dX6_about_98 rfl (lv_at hl 0 rfl) ?_
      refine va_get (D := D) (ci := 5) (v := .ref (a 0)) (C := RX6) (T := TX6) (N := 7) hx hb hts iX6 hown hK hP 0 rfl rfl 0 (by decide) (hts (.fieldLink RX6 9 "CancelRows" "lengths" "[I") (by decide +kernel)) (fun _ h9 => h9) rfl dX6_about_99 ?_
      refine lv_iload_n hx hb dX6_about_102 rfl (lv_at hl 1 rfl) ?_
      refine z_iald hx hb hK hP 1 0 rfl rfl (i.toNat) (by omega) (by omega) (by omega) dX6_about_103 ?_
      refine z_re (e2 := ((F (i.toNat) : Nat) : Int)) (rfl) ?_
      refine vp_callSi (va_runS (As := [.long (lN ((G) (i.toNat))), .int (zI (((F (i.toNat) : Nat) : Int)))]) (rest := []) ⟨hx, hb, hml, hown, hts⟩ (c_X3_changes l (G i.toNat) (F i.toNat) h1.2.1 h1.1 h1.2.2) (va_cwS 2 hts gX6_about_X3_changes rfl rfl rfl (by decide +kernel) ⟨Nat.le_of_ble_eq_true rfl, Nat.le_of_ble_eq_true rfl⟩) ⟨fun a U g mk q => q, fun U hU hW => ⟨rfl, trivial⟩⟩ rfl rfl hl.1 rfl (lv_room (Nat.le_of_ble_eq_true rfl)) dX6_about_104 ⟨Nat.le_of_ble_eq_true rfl, Nat.le_of_ble_eq_true rfl⟩).run (fun r hr104 => ?_)
      obtain rfl := hr104
      exact W.iret (v := (zI (((chS (F (i.toNat)) ((G) (i.toNat)) : Nat) : Int)))) hx hb hr (fun tq ht hW => ⟨_, rfl, by rw [sp_about, if_pos c5, if_neg (by omega), if_neg (by omega), if_neg (by omega), if_pos hw11], ht⟩) (fun q h => by cases h) dX6_about_107
    · refine z_tableIn (off := 97) (tgt := 108) hx hb 4 dX6_about_11 (by omega) (by omega) (by omega) rfl (by decide) ?_
      refine lv_aload_n hx hb dX6_about_108 rfl (lv_at hl 0 rfl) ?_
      refine va_get (D := D) (ci := 5) (v := .ref (a 1)) (C := RX6) (T := TX6) (N := 7) hx hb hts iX6 hown hK hP 0 rfl rfl 1 (by decide) (hts (.fieldLink RX6 13 "CancelRows" "numbers" "[J") (by decide +kernel)) (fun _ h9 => h9) rfl dX6_about_109 ?_
      refine lv_iload_n hx hb dX6_about_112 rfl (lv_at hl 1 rfl) ?_
      refine l_lald hx hb hK hP 2 1 rfl rfl (i.toNat) (by omega) (by omega) (by omega) dX6_about_113 ?_
      refine lv_aload_n hx hb dX6_about_114 rfl (lv_at hl 0 rfl) ?_
      refine va_get (D := D) (ci := 5) (v := .ref (a 0)) (C := RX6) (T := TX6) (N := 7) hx hb hts iX6 hown hK hP 0 rfl rfl 0 (by decide) (hts (.fieldLink RX6 9 "CancelRows" "lengths" "[I") (by decide +kernel)) (fun _ h9 => h9) rfl dX6_about_115 ?_
      refine lv_iload_n hx hb dX6_about_118 rfl (lv_at hl 1 rfl) ?_
      refine z_iald hx hb hK hP 1 0 rfl rfl (i.toNat) (by omega) (by omega) (by omega) dX6_about_119 ?_
      refine z_re (e2 := ((F (i.toNat) : Nat) : Int)) (rfl) ?_
      refine vp_callSi (va_runS (As := [.long (lN ((G) (i.toNat))), .int (zI (((F (i.toNat) : Nat) : Int)))]) (rest := []) ⟨hx, hb, hml, hown, hts⟩ (c_X3_unlikeTurned l (G i.toNat) (F i.toNat) h1.2.1 h1.2.2) (va_cwS 2 hts gX6_about_X3_unlikeTurned rfl rfl rfl (by decide +kernel) ⟨Nat.le_of_ble_eq_true rfl, Nat.le_of_ble_eq_true rfl⟩) ⟨fun a U g mk q => q, fun U hU hW => ⟨rfl, trivial⟩⟩ rfl rfl hl.1 rfl (lv_room (Nat.le_of_ble_eq_true rfl)) dX6_about_120 ⟨Nat.le_of_ble_eq_true rfl, Nat.le_of_ble_eq_true rfl⟩).run (fun r hr120 => ?_)
      obtain rfl := hr120
      exact W.iret (v := (zI (((cntw (F (i.toNat)) ((G) (i.toNat)) 8 : Nat) : Int)))) hx hb hr (fun tq ht hW => ⟨_, rfl, by rw [sp_about, if_pos c5, if_neg (by omega), if_neg (by omega), if_neg (by omega), if_neg (by omega), if_pos hw11], ht⟩) (fun q h => by cases h) dX6_about_123
    · refine z_tableOut (tgt := 124) hx hb dX6_about_11 (by omega) (by omega) (by decide) ?_
      refine lv_iconst (v := zI (-1)) hx hb dX6_about_124 rfl ?_
      exact W.iret (v := (zI ((-1)))) hx hb hr (fun tq ht hW => ⟨_, rfl, by rw [sp_about, if_pos c5, if_neg (by omega), if_neg (by omega), if_neg (by omega), if_neg (by omega), if_neg (by omega)], ht⟩) (fun q h => by cases h) dX6_about_125
  · refine lv_iconst (v := zI (-1)) hx hb dX6_about_8 rfl ?_
    exact W.iret (v := (zI ((-1)))) hx hb hr (fun tq ht hW => ⟨_, rfl, by rw [sp_about, if_neg c5], ht⟩) (fun q h => by cases h) dX6_about_9

-- cancels
set_option maxHeartbeats 4000000 in
set_option maxRecDepth 100000 in
theorem c_X6_cancels (l : Launch) (D : va_G) (t : Nat → ClassId) (x : Nat) (a : Nat → Nat) (R : Nat) (F G : Nat → Nat) (gV : RV R F G) (i j : Int) (gi : -2147483648 ≤ i ∧ i < 2147483648) (gj : -2147483648 ≤ j ∧ j < 2147483648) : Met l yX6_cancels wsX6_cancels ({ frames := 3, cells := 0, slots := 0, locals := 70 }) (va_Pc [.ref x, .int (zI (i)), .int (zI (j))] (fun U => va_P D vwCl ([oX x a (((R : Nat) : Int)), aI t (a 0) 24 (cN F), aJ t (a 1) 24 (G)]) U.heap ∧ va_K D vwCl (TY t) U)) (vp_Si (fun r => r = zI (sp_cancels R F G i j))) 0 0 (fun _ => False) := by
  refine Met.ofW (cc := cX6_cancels) (maxL := 3) (ret := (some .int)) (by decide) rfl ?_
  intro p e s m args below meth c s₁ B hml hv
  obtain ⟨rfl, hP, hK⟩ := hv
  have hx := B.exec
  have hb := B.bytes
  have hr := B.returns
  have hts := atoms_spec (ws := wsX6_cancels) B.pre
  have hown : s.vm.findClass RX6 = some m.cls := findClass_of_methodNamed B.named
  have hlocks := B.notSynchronized
  have hl := lv_entry ([.ref x, .int (zI (i)), .int (zI (j))]) (n := 3) (Nat.le_of_ble_eq_true rfl)
  rw [lg_entry_eq]
  generalize (lg_sl ([.ref x, .int (zI (i)), .int (zI (j))]) ++ List.replicate (3 - (lg_sl ([.ref x, .int (zI (i)), .int (zI (j))])).length) Slot.unset).toArray = ls at hl ⊢
  have hl : lv_has ls 3 [(0, .ref x), (1, .int (zI (i))), (2, .int (zI (j)))] := hl
  have iX6 : ∀ w ∈ u_ws RX6 TX6 7, w ∈ wsX6_cancels := by decide +kernel
  have gR := gV.1
  refine lv_aload_n hx hb dX6_cancels_0 rfl (lv_at hl 0 rfl) ?_
  refine lv_iload_n hx hb dX6_cancels_1 rfl (lv_at hl 1 rfl) ?_
  refine lv_iload_n hx hb dX6_cancels_2 rfl (lv_at hl 2 rfl) ?_
  have hPc := hP.sub (ws' := [oX x a (((R : Nat) : Int)), aI t (a 0) 24 (cN F)]) [0, 1] rfl
  refine vp_callSi (va_runV (As := [.int (zI (i)), .int (zI (j))]) (rest := []) ⟨hx, hb, hml, hown, hts⟩ (c_X6_areAlikeLong l D t x a R F G gV i j gi gj) (cwV 2 hts gX6_cancels_X6_areAlikeLong rfl rfl rfl (by decide +kernel) ⟨Nat.le_of_ble_eq_true rfl, Nat.le_of_ble_eq_true rfl⟩) ⟨fun a U g mk q => ⟨q.1, q.2.1, va_K.moved (u := U) (U := U.calling g mk a) (Vm.Alike.refl U.vm) q.2.2⟩, va_recv hK hPc (ci := 5) (q0 := 0) rfl rfl, fun U hU hW => ⟨rfl, by rw [hU]; exact hPc, va_K.moved hW.alike hK⟩⟩ rfl rfl hl.1 rfl (lv_room (Nat.le_of_ble_eq_true rfl)) dX6_cancels_3 ⟨Nat.le_of_ble_eq_true rfl, Nat.le_of_ble_eq_true rfl⟩).run (fun r hr3 => ?_)
  obtain rfl := hr3
  refine z_ifb_eq (P := inR R (i) ∧ inR R (j) ∧ F (i).toNat = F (j).toNat) (tgt := 33) hx hb dX6_cancels_6 (by decide) (fun c6 => ?_) (fun c6 => ?_)
  · refine lv_iconst (v := zI (-1)) hx hb dX6_cancels_33 rfl ?_
    exact W.iret (v := (zI ((-1)))) hx hb hr (fun tq ht hW => ⟨_, rfl, by rw [sp_cancels, if_neg c6], ht⟩) (fun q h => by cases h) dX6_cancels_34
  · have h1 := RV_at gV c6.1
    have h2 := RV_at gV c6.2.1
    refine lv_aload_n hx hb dX6_cancels_9 rfl (lv_at hl 0 rfl) ?_
    refine va_get (D := D) (ci := 5) (v := .ref (a 1)) (C := RX6) (T := TX6) (N := 7) hx hb hts iX6 hown hK hP 0 rfl rfl 1 (by decide) (hts (.fieldLink RX6 13 "CancelRows" "numbers" "[J") (by decide +kernel)) (fun _ h9 => h9) rfl dX6_cancels_10 ?_
    refine lv_iload_n hx hb dX6_cancels_13 rfl (lv_at hl 1 rfl) ?_
    refine l_lald hx hb hK hP 2 1 rfl rfl (i.toNat) (by omega) (by omega) (by omega) dX6_cancels_14 ?_
    refine lv_aload_n hx hb dX6_cancels_15 rfl (lv_at hl 0 rfl) ?_
    refine va_get (D := D) (ci := 5) (v := .ref (a 1)) (C := RX6) (T := TX6) (N := 7) hx hb hts iX6 hown hK hP 0 rfl rfl 1 (by decide) (hts (.fieldLink RX6 13 "CancelRows" "numbers" "[J") (by decide +kernel)) (fun _ h9 => h9) rfl dX6_cancels_16 ?_
    refine lv_iload_n hx hb dX6_cancels_19 rfl (lv_at hl 2 rfl) ?_
    refine l_lald hx hb hK hP 2 1 rfl rfl (j.toNat) (by omega) (by omega) (by omega) dX6_cancels_20 ?_
    refine lv_aload_n hx hb dX6_cancels_21 rfl (lv_at hl 0 rfl) ?_
    refine va_get (D := D) (ci := 5) (v := .ref (a 0)) (C := RX6) (T := TX6) (N := 7) hx hb hts iX6 hown hK hP 0 rfl rfl 0 (by decide) (hts (.fieldLink RX6 9 "CancelRows" "lengths" "[I") (by decide +kernel)) (fun _ h9 => h9) rfl dX6_cancels_22 ?_
    refine lv_iload_n hx hb dX6_cancels_25 rfl (lv_at hl 1 rfl) ?_
    refine z_iald hx hb hK hP 1 0 rfl rfl (i.toNat) (by omega) (by omega) (by omega) dX6_cancels_26 ?_
    refine z_re (e2 := ((F (i.toNat) : Nat) : Int)) (rfl) ?_
    refine vp_callSi (va_runS (As := [.long (lN ((G) (i.toNat))), .long (lN ((G) (j.toNat))), .int (zI (((F (i.toNat) : Nat) : Int)))]) (rest := []) ⟨hx, hb, hml, hown, hts⟩ (c_X3_firstLeftOpen l (G i.toNat) (G j.toNat) (F i.toNat) h1.2.1 h1.1 h1.2.2 (by rw [c6.2.2]; exact h2.2.2)) (va_cwS 3 hts gX6_cancels_X3_firstLeftOpen rfl rfl rfl (by decide +kernel) ⟨Nat.le_of_ble_eq_true rfl, Nat.le_of_ble_eq_true rfl⟩) ⟨fun a U g mk q => q, fun U hU hW => ⟨rfl, trivial⟩⟩ rfl rfl hl.1 rfl (lv_room (Nat.le_of_ble_eq_true rfl)) dX6_cancels_27 ⟨Nat.le_of_ble_eq_true rfl, Nat.le_of_ble_eq_true rfl⟩).run (fun r hr27 => ?_)
    obtain rfl := hr27
    refine lv_goto (tgt := 34) hx hb dX6_cancels_30 (by decide) ?_
    exact W.iret (v := (zI (((ff (fun k => oS (F (i.toNat)) ((G) (i.toNat)) k + oS (F (i.toNat)) ((G) (j.toNat)) k) 1 ((F (i.toNat)) - 1) : Nat) : Int)))) hx hb hr (fun tq ht hW => ⟨_, rfl, by rw [sp_cancels, if_pos c6], ht⟩) (fun q h => by cases h) dX6_cancels_34

-- four
set_option maxHeartbeats 4000000 in
set_option maxRecDepth 100000 in
theorem c_X6_four (l : Launch) (D : va_G) (t : Nat → ClassId) (x : Nat) (a : Nat → Nat) (R : Nat) (F G : Nat → Nat) (gV : RV R F G) (i j i2 j2 : Int) (gi : -2147483648 ≤ i ∧ i < 2147483648) (gj : -2147483648 ≤ j ∧ j < 2147483648) (gi2 : -2147483648 ≤ i2 ∧ i2 < 2147483648) (gj2 : -2147483648 ≤ j2 ∧ j2 < 2147483648) : Met l yX6_four wsX6_four ({ frames := 3, cells := 0, slots := 0, locals := 65 }) (va_Pc [.ref x, .int (zI (i)), .int (zI (j)), .int (zI (i2)), .int (zI (j2))] (fun U => va_P D vwCl ([oX x a (((R : Nat) : Int)), aI t (a 0) 24 (cN F), aJ t (a 1) 24 (G)]) U.heap ∧ va_K D vwCl (TY t) U)) (vp_Si (fun r => r = zI (sp_four R F G i j i2 j2))) 0 0 (fun _ => False) := by
  refine Met.ofW (cc := cX6_four) (maxL := 9) (ret := (some .int)) (by decide) rfl ?_
  intro p e s m args below meth c s₁ B hml hv
  obtain ⟨rfl, hP, hK⟩ := hv
  have hx := B.exec
  have hb := B.bytes
  have hr := B.returns
  have hts := atoms_spec (ws := wsX6_four) B.pre
  have hown : s.vm.findClass RX6 = some m.cls := findClass_of_methodNamed B.named
  have hlocks := B.notSynchronized
  have hl := lv_entry ([.ref x, .int (zI (i)), .int (zI (j)), .int (zI (i2)), .int (zI (j2))]) (n := 9) (Nat.le_of_ble_eq_true rfl)
  rw [lg_entry_eq]
  generalize (lg_sl ([.ref x, .int (zI (i)), .int (zI (j)), .int (zI (i2)), .int (zI (j2))]) ++ List.replicate (9 - (lg_sl ([.ref x, .int (zI (i)), .int (zI (j)), .int (zI (i2)), .int (zI (j2))])).length) Slot.unset).toArray = ls at hl ⊢
  have hl : lv_has ls 9 [(0, .ref x), (1, .int (zI (i))), (2, .int (zI (j))), (3, .int (zI (i2))), (4, .int (zI (j2)))] := hl
  have iX6 : ∀ w ∈ u_ws RX6 TX6 7, w ∈ wsX6_four := by decide +kernel
  have gR := gV.1
  refine lv_aload_n hx hb dX6_four_0 rfl (lv_at hl 0 rfl) ?_
  refine lv_iload_n hx hb dX6_four_1 rfl (lv_at hl 1 rfl) ?_
  refine lv_iload_n hx hb dX6_four_2 rfl (lv_at hl 2 rfl) ?_
  have hPc := hP.sub (ws' := [oX x a (((R : Nat) : Int)), aI t (a 0) 24 (cN F)]) [0, 1] rfl
  refine vp_callSi (va_runV (As := [.int (zI (i)), .int (zI (j))]) (rest := []) ⟨hx, hb, hml, hown, hts⟩ (c_X6_areAlikeLong l D t x a R F G gV i j gi gj) (cwV 2 hts gX6_four_X6_areAlikeLong rfl rfl rfl (by decide +kernel) ⟨Nat.le_of_ble_eq_true rfl, Nat.le_of_ble_eq_true rfl⟩) ⟨fun a U g mk q => ⟨q.1, q.2.1, va_K.moved (u := U) (U := U.calling g mk a) (Vm.Alike.refl U.vm) q.2.2⟩, va_recv hK hPc (ci := 5) (q0 := 0) rfl rfl, fun U hU hW => ⟨rfl, by rw [hU]; exact hPc, va_K.moved hW.alike hK⟩⟩ rfl rfl hl.1 rfl (lv_room (Nat.le_of_ble_eq_true rfl)) dX6_four_3 ⟨Nat.le_of_ble_eq_true rfl, Nat.le_of_ble_eq_true rfl⟩).run (fun r hr3 => ?_)
  obtain rfl := hr3
  refine z_ifb_eq (P := inR R (i) ∧ inR R (j) ∧ F (i).toNat = F (j).toNat) (tgt := 28) hx hb dX6_four_6 (by decide) (fun c6 => ?_) (fun c6 => ?_)
  · refine lv_iconst (v := zI (-1)) hx hb dX6_four_28 rfl ?_
    exact W.iret (v := (zI ((-1)))) hx hb hr (fun tq ht hW => ⟨_, rfl, by rw [sp_four, if_neg (fun z => c6 z.1)], ht⟩) (fun q h => by cases h) dX6_four_29
  · refine lv_aload_n hx hb dX6_four_9 rfl (lv_at hl 0 rfl) ?_
    refine lv_iload_n hx hb dX6_four_10 rfl (lv_at hl 2 rfl) ?_
    refine lv_iload_n hx hb dX6_four_11 rfl (lv_at hl 3 rfl) ?_
    have hPc := hP.sub (ws' := [oX x a (((R : Nat) : Int)), aI t (a 0) 24 (cN F)]) [0, 1] rfl
    refine vp_callSi (va_runV (As := [.int (zI (j)), .int (zI (i2))]) (rest := []) ⟨hx, hb, hml, hown, hts⟩ (c_X6_areAlikeLong l D t x a R F G gV j i2 gj gi2) (cwV 2 hts gX6_four_X6_areAlikeLong rfl rfl rfl (by decide +kernel) ⟨Nat.le_of_ble_eq_true rfl, Nat.le_of_ble_eq_true rfl⟩) ⟨fun a U g mk q => ⟨q.1, q.2.1, va_K.moved (u := U) (U := U.calling g mk a) (Vm.Alike.refl U.vm) q.2.2⟩, va_recv hK hPc (ci := 5) (q0 := 0) rfl rfl, fun U hU hW => ⟨rfl, by rw [hU]; exact hPc, va_K.moved hW.alike hK⟩⟩ rfl rfl hl.1 rfl (lv_room (Nat.le_of_ble_eq_true rfl)) dX6_four_12 ⟨Nat.le_of_ble_eq_true rfl, Nat.le_of_ble_eq_true rfl⟩).run (fun r hr12 => ?_)
    obtain rfl := hr12
    refine z_ifb_eq (P := inR R (j) ∧ inR R (i2) ∧ F (j).toNat = F (i2).toNat) (tgt := 28) hx hb dX6_four_15 (by decide) (fun c15 => ?_) (fun c15 => ?_)
    · refine lv_iconst (v := zI (-1)) hx hb dX6_four_28 rfl ?_
      exact W.iret (v := (zI ((-1)))) hx hb hr (fun tq ht hW => ⟨_, rfl, by rw [sp_four, if_neg (fun z => c15 z.2.1)], ht⟩) (fun q h => by cases h) dX6_four_29
    · refine lv_aload_n hx hb dX6_four_18 rfl (lv_at hl 0 rfl) ?_
      refine lv_iload_n hx hb dX6_four_19 rfl (lv_at hl 3 rfl) ?_
      refine lv_iload hx hb dX6_four_20 (lv_at hl 4 rfl) ?_
      have hPc := hP.sub (ws' := [oX x a (((R : Nat) : Int)), aI t (a 0) 24 (cN F)]) [0, 1] rfl
      refine vp_callSi (va_runV (As := [.int (zI (i2)), .int (zI (j2))]) (rest := []) ⟨hx, hb, hml, hown, hts⟩ (c_X6_areAlikeLong l D t x a R F G gV i2 j2 gi2 gj2) (cwV 2 hts gX6_four_X6_areAlikeLong rfl rfl rfl (by decide +kernel) ⟨Nat.le_of_ble_eq_true rfl, Nat.le_of_ble_eq_true rfl⟩) ⟨fun a U g mk q => ⟨q.1, q.2.1, va_K.moved (u := U) (U := U.calling g mk a) (Vm.Alike.refl U.vm) q.2.2⟩, va_recv hK hPc (ci := 5) (q0 := 0) rfl rfl, fun U hU hW => ⟨rfl, by rw [hU]; exact hPc, va_K.moved hW.alike hK⟩⟩ rfl rfl hl.1 rfl (lv_room (Nat.le_of_ble_eq_true rfl)) dX6_four_22 ⟨Nat.le_of_ble_eq_true rfl, Nat.le_of_ble_eq_true rfl⟩).run (fun r hr22 => ?_)
      obtain rfl := hr22
      refine z_ifb_ne (P := inR R (i2) ∧ inR R (j2) ∧ F (i2).toNat = F (j2).toNat) (tgt := 30) hx hb dX6_four_25 (by decide) (fun c25 => ?_) (fun c25 => ?_)
      · have h1 := RV_at gV c6.1
        have h2 := RV_at gV c6.2.1
        have h3 := RV_at gV c15.2.1
        have h4 := RV_at gV c25.2.1
        have e1 : F j.toNat = F i.toNat := c6.2.2.symm
        have e2 : F i2.toNat = F i.toNat := c15.2.2.symm.trans e1
        have e3 : F j2.toNat = F i.toNat := c25.2.2.symm.trans e2
        refine lv_aload_n hx hb dX6_four_30 rfl (lv_at hl 0 rfl) ?_
        refine va_get (D := D) (ci := 5) (v := .ref (a 0)) (C := RX6) (T := TX6) (N := 7) hx hb hts iX6 hown hK hP 0 rfl rfl 0 (by decide) (hts (.fieldLink RX6 9 "CancelRows" "lengths" "[I") (by decide +kernel)) (fun _ h9 => h9) rfl dX6_four_31 ?_
        refine lv_iload_n hx hb dX6_four_34 rfl (lv_at hl 1 rfl) ?_
        refine z_iald hx hb hK hP 1 0 rfl rfl (i.toNat) (by omega) (by omega) (by omega) dX6_four_35 ?_
        refine z_re (e2 := ((F (i.toNat) : Nat) : Int)) (rfl) ?_
        refine lv_istore (lv' := [(5, .int (zI (((F (i.toNat) : Nat) : Int)))), (0, .ref x), (1, .int (zI (i))), (2, .int (zI (j))), (3, .int (zI (i2))), (4, .int (zI (j2)))]) hx hb dX6_four_36 hl (by decide) rfl (fun ls hl => ?_)
        refine lv_iconst (v := zI 1) hx hb dX6_four_38 rfl ?_
        refine z_re (e2 := ((1 : Nat) : Int)) (rfl) ?_
        refine lv_istore (lv' := [(6, .int (zI (((1 : Nat) : Int)))), (5, .int (zI (((F (i.toNat) : Nat) : Int)))), (0, .ref x), (1, .int (zI (i))), (2, .int (zI (j))), (3, .int (zI (i2))), (4, .int (zI (j2)))]) hx hb dX6_four_39 hl (by decide) rfl (fun ls hl => ?_)
        have lp41 : ∀ (NN : Nat) (k : Nat) (q1 : 1 ≤ k) (q2 : k ≤ F i.toNat) (q3 : ff (fourF F G i j i2 j2) 1 (F i.toNat - 1) = ff (fourF F G i j i2 j2) k (F i.toNat - k)), F i.toNat - k < NN → ∀ (ls : Array Slot), lv_has ls 9 [(0, .ref x), (1, .int (zI (i))), (2, .int (zI (j))), (3, .int (zI (i2))), (4, .int (zI (j2))), (5, .int (zI (((F i.toNat : Nat) : Int)))), (6, .int (zI (k)))] → W p l e (headSpec wsX6_four ({ frames := 3, cells := 0, slots := 0, locals := 65 })).room s m ([.ref x, .int (zI (i)), .int (zI (j)), .int (zI (i2)), .int (zI (j2))] : List Value).toArray below meth c s.heap [] 0 0 (MQ below (vp_Si (fun r => r = zI (sp_four R F G i j i2 j2))) ([.ref x, .int (zI (i)), .int (zI (j)), .int (zI (i2)), .int (zI (j2))] : List Value).toArray s 0 0 (fun _ => False)) (F0 m 41 ls []) := by
          intro NN
          induction NN with
          | zero =>
            intro k q1 q2 q3 hmu
            exact absurd hmu (Nat.not_lt_zero _)
          | succ NN ih41 =>
            intro k q1 q2 q3 hmu ls hl
            have b1 := rS_bd (F i.toNat) (G i.toNat) k
            have b2 := rS_bd (F i.toNat) (G j.toNat) k
            have b3 := rS_bd (F i.toNat) (G i2.toNat) k
            have b4 := rS_bd (F i.toNat) (G j2.toNat) k
            refine lv_iload hx hb dX6_four_41 (lv_at hl 6 rfl) ?_
            refine lv_iload hx hb dX6_four_43 (lv_at hl 5 rfl) ?_
            refine z_icmp_ge (tgt := 124) hx hb dX6_four_45 (by decide) (by omega) (by omega) (fun c45 => ?_) (fun c45 => ?_)
            · refine lv_iconst (v := zI 0) hx hb dX6_four_124 rfl ?_
              exact W.iret (v := (zI (0))) hx hb hr (fun tq ht hW => ⟨_, rfl, by rw [sp_four, if_pos ⟨c6, c15, c25⟩, q3, ff_e _ (by omega)]; rfl, ht⟩) (fun q h => by cases h) dX6_four_125
            · refine lv_aload_n hx hb dX6_four_48 rfl (lv_at hl 0 rfl) ?_
              refine va_get (D := D) (ci := 5) (v := .ref (a 1)) (C := RX6) (T := TX6) (N := 7) hx hb hts iX6 hown hK hP 0 rfl rfl 1 (by decide) (hts (.fieldLink RX6 13 "CancelRows" "numbers" "[J") (by decide +kernel)) (fun _ h9 => h9) rfl dX6_four_49 ?_
              refine lv_iload_n hx hb dX6_four_52 rfl (lv_at hl 1 rfl) ?_
              refine l_lald hx hb hK hP 2 1 rfl rfl (i.toNat) (by omega) (by omega) (by omega) dX6_four_53 ?_
              refine lv_iload hx hb dX6_four_54 (lv_at hl 5 rfl) ?_
              refine lv_iload hx hb dX6_four_56 (lv_at hl 6 rfl) ?_
              refine vp_callSi (va_runS (As := [.long (lN ((G) (i.toNat))), .int (zI (((F i.toNat : Nat) : Int))), .int (zI (k))]) (rest := []) ⟨hx, hb, hml, hown, hts⟩ (c_X3_roundSum l (G i.toNat) (F i.toNat) k h1.2.1 (by omega) h1.2.2) (va_cwS 3 hts gX6_four_X3_roundSum rfl rfl rfl (by decide +kernel) ⟨Nat.le_of_ble_eq_true rfl, Nat.le_of_ble_eq_true rfl⟩) ⟨fun a U g mk q => q, fun U hU hW => ⟨rfl, trivial⟩⟩ rfl rfl hl.1 rfl (lv_room (Nat.le_of_ble_eq_true rfl)) dX6_four_58 ⟨Nat.le_of_ble_eq_true rfl, Nat.le_of_ble_eq_true rfl⟩).run (fun r hr58 => ?_)
              obtain rfl := hr58
              refine lv_aload_n hx hb dX6_four_61 rfl (lv_at hl 0 rfl) ?_
              refine va_get (D := D) (ci := 5) (v := .ref (a 1)) (C := RX6) (T := TX6) (N := 7) hx hb hts iX6 hown hK hP 0 rfl rfl 1 (by decide) (hts (.fieldLink RX6 13 "CancelRows" "numbers" "[J") (by decide +kernel)) (fun _ h9 => h9) rfl dX6_four_62 ?_
              refine lv_iload_n hx hb dX6_four_65 rfl (lv_at hl 2 rfl) ?_
              refine l_lald hx hb hK hP 2 1 rfl rfl (j.toNat) (by omega) (by omega) (by omega) dX6_four_66 ?_
              refine lv_iload hx hb dX6_four_67 (lv_at hl 5 rfl) ?_
              refine lv_iload hx hb dX6_four_69 (lv_at hl 6 rfl) ?_
              refine vp_callSi (va_runS (As := [.long (lN ((G) (j.toNat))), .int (zI (((F i.toNat : Nat) : Int))), .int (zI (k))]) (rest := [.int (zI (rS (F i.toNat) ((G) (i.toNat)) (k)))]) ⟨hx, hb, hml, hown, hts⟩ (c_X3_roundSum l (G j.toNat) (F i.toNat) k h1.2.1 (by omega) (by rw [← e1]; exact h2.2.2)) (va_cwS 3 hts gX6_four_X3_roundSum rfl rfl rfl (by decide +kernel) ⟨Nat.le_of_ble_eq_true rfl, Nat.le_of_ble_eq_true rfl⟩) ⟨fun a U g mk q => q, fun U hU hW => ⟨rfl, trivial⟩⟩ rfl rfl hl.1 rfl (lv_room (Nat.le_of_ble_eq_true rfl)) dX6_four_71 ⟨Nat.le_of_ble_eq_true rfl, Nat.le_of_ble_eq_true rfl⟩).run (fun r hr71 => ?_)
              obtain rfl := hr71
              refine z_iadd hx hb dX6_four_74 ?_
              refine lv_istore (lv' := [(7, .int (zI ((rS (F i.toNat) ((G) (i.toNat)) (k)) + (rS (F i.toNat) ((G) (j.toNat)) (k))))), (0, .ref x), (1, .int (zI (i))), (2, .int (zI (j))), (3, .int (zI (i2))), (4, .int (zI (j2))), (5, .int (zI (((F i.toNat : Nat) : Int)))), (6, .int (zI (k)))]) hx hb dX6_four_75 hl (by decide) rfl (fun ls hl => ?_)
              refine lv_aload_n hx hb dX6_four_77 rfl (lv_at hl 1 rfl) ?_
              refine va_get (D := D) (ci := 5) (v := .ref (a 1)) (C := RX6) (T := TX6) (N := 7) hx hb hts iX6 hown hK hP 0 rfl rfl 1 (by decide) (hts (.fieldLink RX6 13 "CancelRows" "numbers" "[J") (by decide +kernel)) (fun _ h9 => h9) rfl dX6_four_78 ?_
              refine lv_iload_n hx hb dX6_four_81 rfl (lv_at hl 4 rfl) ?_
              refine l_lald hx hb hK hP 2 1 rfl rfl (i2.toNat) (by omega) (by omega) (by omega) dX6_four_82 ?_
              refine lv_iload hx hb dX6_four_83 (lv_at hl 6 rfl) ?_
              refine lv_iload hx hb dX6_four_85 (lv_at hl 7 rfl) ?_
              refine vp_callSi (va_runS (As := [.long (lN ((G) (i2.toNat))), .int (zI (((F i.toNat : Nat) : Int))), .int (zI (k))]) (rest := []) ⟨hx, hb, hml, hown, hts⟩ (c_X3_roundSum l (G i2.toNat) (F i.toNat) k h1.2.1 (by omega) (by rw [← e2]; exact h3.2.2)) (va_cwS 3 hts gX6_four_X3_roundSum rfl rfl rfl (by decide +kernel) ⟨Nat.le_of_ble_eq_true rfl, Nat.le_of_ble_eq_true rfl⟩) ⟨fun a U g mk q => q, fun U hU hW => ⟨rfl, trivial⟩⟩ rfl rfl hl.1 rfl (lv_room (Nat.le_of_ble_eq_true rfl)) dX6_four_87 ⟨Nat.le_of_ble_eq_true rfl, Nat.le_of_ble_eq_true rfl⟩).run (fun r hr87 => ?_)
              obtain rfl := hr87
              refine lv_aload_n hx hb dX6_four_90 rfl (lv_at hl 1 rfl) ?_
              refine va_get (D := D) (ci := 5) (v := .ref (a 1)) (C := RX6) (T := TX6) (N := 7) hx hb hts iX6 hown hK hP 0 rfl rfl 1 (by decide) (hts (.fieldLink RX6 13 "CancelRows" "numbers" "[J") (by decide +kernel)) (fun _ h9 => h9) rfl dX6_four_91 ?_
              refine lv_iload hx hb dX6_four_94 (lv_at hl 5 rfl) ?_
              refine l_lald hx hb hK hP 2 1 rfl rfl (j2.toNat) (by omega) (by omega) (by omega) dX6_four_96 ?_
              refine lv_iload hx hb dX6_four_97 (lv_at hl 6 rfl) ?_
              refine lv_iload hx hb dX6_four_99 (lv_at hl 7 rfl) ?_
              refine vp_callSi (va_runS (As := [.long (lN ((G) (j2.toNat))), .int (zI (((F i.toNat : Nat) : Int))), .int (zI (k))]) (rest := [.int (zI (rS (F i.toNat) ((G) (i2.toNat)) (k)))]) ⟨hx, hb, hml, hown, hts⟩ (c_X3_roundSum l (G j2.toNat) (F i.toNat) k h1.2.1 (by omega) (by rw [← e3]; exact h4.2.2)) (va_cwS 3 hts gX6_four_X3_roundSum rfl rfl rfl (by decide +kernel) ⟨Nat.le_of_ble_eq_true rfl, Nat.le_of_ble_eq_true rfl⟩) ⟨fun a U g mk q => q, fun U hU hW => ⟨rfl, trivial⟩⟩ rfl rfl hl.1 rfl (lv_room (Nat.le_of_ble_eq_true rfl)) dX6_four_101 ⟨Nat.le_of_ble_eq_true rfl, Nat.le_of_ble_eq_true rfl⟩).run (fun r hr101 => ?_)
              obtain rfl := hr101
              refine z_iadd hx hb dX6_four_104 ?_
              refine lv_istore (lv' := [(8, .int (zI ((rS (F i.toNat) ((G) (i2.toNat)) (k)) + (rS (F i.toNat) ((G) (j2.toNat)) (k))))), (7, .int (zI ((rS (F i.toNat) ((G) (i.toNat)) (k)) + (rS (F i.toNat) ((G) (j.toNat)) (k))))), (0, .ref x), (1, .int (zI (i))), (2, .int (zI (j))), (3, .int (zI (i2))), (4, .int (zI (j2))), (5, .int (zI (((F i.toNat : Nat) : Int)))), (6, .int (zI (k)))]) hx hb dX6_four_105 hl (by decide) rfl (fun ls hl => ?_)
              refine lv_iload hx hb dX6_four_107 (lv_at hl 1 rfl) ?_
              refine lv_iload hx hb dX6_four_109 (lv_at hl 0 rfl) ?_
              refine z_iadd hx hb dX6_four_111 ?_
              refine z_if_eq (tgt := 118) hx hb dX6_four_112 (by decide) (by omega) (fun c112 => ?_) (fun c112 => ?_)
              · refine lv_iinc (v := zI (((k + 1 : Nat) : Int))) (lv' := [(6, .int (zI (((k + 1 : Nat) : Int)))), (8, .int (zI ((rS (F i.toNat) ((G) (i2.toNat)) (k)) + (rS (F i.toNat) ((G) (j2.toNat)) (k))))), (7, .int (zI ((rS (F i.toNat) ((G) (i.toNat)) (k)) + (rS (F i.toNat) ((G) (j.toNat)) (k))))), (0, .ref x), (1, .int (zI (i))), (2, .int (zI (j))), (3, .int (zI (i2))), (4, .int (zI (j2))), (5, .int (zI (((F i.toNat : Nat) : Int))))]) hx hb dX6_four_118 hl (k := 8) rfl (zI_incr (by omega)) (by decide) rfl (fun ls hl => ?_)
                refine lv_goto (tgt := 41) hx hb dX6_four_121 (by decide) ?_
                exact ih41 (k + 1) (by omega) (by omega) (by rw [q3, ff_s _ (by omega), if_neg (fun z => z c112)]) (by omega) _ (lv_sub hl [3, 4, 5, 6, 7, 8, 0] rfl)
              · refine lv_iload hx hb dX6_four_115 (lv_at hl 8 rfl) ?_
                exact W.iret (v := (zI (k))) hx hb hr (fun tq ht hW => ⟨_, rfl, by rw [sp_four, if_pos ⟨c6, c15, c25⟩, q3, ff_s _ (by omega), if_pos (show fourF F G i j i2 j2 k ≠ 0 from c112)], ht⟩) (fun q h => by cases h) dX6_four_117
        exact lp41 _ (1) (by omega) (by omega) (rfl) (Nat.lt_succ_self _) _ (lv_sub hl [2, 3, 4, 5, 6, 1, 0] rfl)
      · refine lv_iconst (v := zI (-1)) hx hb dX6_four_28 rfl ?_
        exact W.iret (v := (zI ((-1)))) hx hb hr (fun tq ht hW => ⟨_, rfl, by rw [sp_four, if_neg (fun z => c25 z.2.2)], ht⟩) (fun q h => by cases h) dX6_four_29

-- turn
set_option maxHeartbeats 4000000 in
set_option maxRecDepth 100000 in
theorem c_X6_turn (l : Launch) (D : va_G) (t : Nat → ClassId) (sz : Nat) (x : Nat) (a : Nat → Nat) (R : Nat) (F G : Nat → Nat) (gV : RV R F G) (i w : Int) (gi : -2147483648 ≤ i ∧ i < 2147483648) (gw : -2147483648 ≤ w ∧ w < 2147483648) : Met l yX6_turn wsX6_turn ({ frames := 3, cells := 0, slots := 0, locals := 67 }) (va_Pc [.ref x, .int (zI (i)), .int (zI (w))] (fun U => U.heap.size = sz ∧ va_P D vwCl ([oX x a (((R : Nat) : Int)), aI t (a 0) 24 (cN F), aJ t (a 1) 24 (G)]) U.heap ∧ va_K D vwCl (TY t) U ∧ va_D (fun _ => True) ([oX x a (((R : Nat) : Int)), aI t (a 0) 24 (cN F), aJ t (a 1) 24 (G)]))) (va_Qi (fun r (u : RT) => r = zI (sp_turn R F G i w).1 ∧ u = (sp_turn R F G i w).2) (fun (u : RT) t1 => va_P D vwCl ([oX x a (((u.1 : Nat) : Int)), aI t (a 0) 24 (cN (u.2.1)), aJ t (a 1) 24 (u.2.2)]) t1.heap ∧ va_K D vwCl (TY t) t1 ∧ va_D (va_A ([oX x a (((R : Nat) : Int)), aI t (a 0) 24 (cN F), aJ t (a 1) 24 (G)]) sz) ([oX x a (((u.1 : Nat) : Int)), aI t (a 0) 24 (cN (u.2.1)), aJ t (a 1) 24 (u.2.2)])) (va_A ([oX x a (((R : Nat) : Int)), aI t (a 0) 24 (cN F), aJ t (a 1) 24 (G)]) sz)) 0 0 (va_A ([oX x a (((R : Nat) : Int)), aI t (a 0) 24 (cN F), aJ t (a 1) 24 (G)]) sz) := by
  refine Met.ofW (cc := cX6_turn) (maxL := 4) (ret := (some .int)) (by decide) rfl ?_
  intro p e s m args below meth c s₁ B hml hv
  obtain ⟨rfl, hsz, hP, hK, hD0⟩ := hv
  have hx := B.exec
  have hb := B.bytes
  have hr := B.returns
  have hts := atoms_spec (ws := wsX6_turn) B.pre
  have hown : s.vm.findClass RX6 = some m.cls := findClass_of_methodNamed B.named
  have hlocks := B.notSynchronized
  subst hsz
  have hD := hD0.self (sz := s.heap.size)
  generalize hAe : va_A ([oX x a (((R : Nat) : Int)), aI t (a 0) 24 (cN F), aJ t (a 1) 24 (G)]) s.heap.size = AA at hD ⊢
  have hA : ∀ q : Nat, s.heap.size ≤ q → AA q := fun q h => by rw [← hAe]; exact Or.inr h
  have hS : va_S AA s.heap s.heap [] := va_S.rf
  have hP : va_P D vwCl ([oX x a (((R : Nat) : Int)), aI t (a 0) 24 (cN F), aJ t (a 1) 24 (G)]) s.heap := hP
  have hl := lv_entry ([.ref x, .int (zI (i)), .int (zI (w))]) (n := 4) (Nat.le_of_ble_eq_true rfl)
  rw [lg_entry_eq]
  generalize (lg_sl ([.ref x, .int (zI (i)), .int (zI (w))]) ++ List.replicate (4 - (lg_sl ([.ref x, .int (zI (i)), .int (zI (w))])).length) Slot.unset).toArray = ls at hl ⊢
  have hl : lv_has ls 4 [(0, .ref x), (1, .int (zI (i))), (2, .int (zI (w)))] := hl
  have iX6 : ∀ w ∈ u_ws RX6 TX6 7, w ∈ wsX6_turn := by decide +kernel
  have gR := gV.1
  refine lv_aload_n hx hb dX6_turn_0 rfl (lv_at hl 0 rfl) ?_
  refine lv_iload_n hx hb dX6_turn_1 rfl (lv_at hl 1 rfl) ?_
  have hPc := hP.sub (ws' := [oX x a (((R : Nat) : Int))]) [0] rfl
  refine vp_callSi (va_runV (As := [.int (zI (i))]) (rest := []) ⟨hx, hb, hml, hown, hts⟩ (c_X6_isRow l D t x a R gV.1 i gi) (cwV 1 hts gX6_turn_X6_isRow rfl rfl rfl (by decide +kernel) ⟨Nat.le_of_ble_eq_true rfl, Nat.le_of_ble_eq_true rfl⟩) ⟨fun a U g mk q => ⟨q.1, q.2.1, va_K.moved (u := U) (U := U.calling g mk a) (Vm.Alike.refl U.vm) q.2.2⟩, va_recv hK hPc (ci := 5) (q0 := 0) rfl rfl, fun U hU hW => ⟨rfl, by rw [hU]; exact hPc, va_K.moved hW.alike hK⟩⟩ rfl rfl hl.1 rfl (lv_room (Nat.le_of_ble_eq_true rfl)) dX6_turn_2 ⟨Nat.le_of_ble_eq_true rfl, Nat.le_of_ble_eq_true rfl⟩).run (fun r hr2 => ?_)
  obtain rfl := hr2
  refine z_ifb_eq (P := inR R (i)) (tgt := 17) hx hb dX6_turn_5 (by decide) (fun c5 => ?_) (fun c5 => ?_)
  · refine lv_iconst (v := zI (-1)) hx hb dX6_turn_17 rfl ?_
    have hP := hP.sub (ws' := [oX x a (((R : Nat) : Int)), aI t (a 0) 24 (cN (F)), aJ t (a 1) 24 (G)]) [0, 1, 2] rfl
    have hD := hD.sub (ws' := [oX x a (((R : Nat) : Int)), aI t (a 0) 24 (cN (F)), aJ t (a 1) 24 (G)]) [0, 1, 2] (by decide) rfl
    exact W.iret (v := (zI ((-1)))) hx hb hr (fun tq ht hW => ⟨⟨_, (R, F, G), rfl, by rw [sp_turn, if_neg (fun z => c5 z.1)]; exact ⟨rfl, rfl⟩, by rw [ht]; exact hP, va_K.moved hW.alike hK, hD⟩, hS.F ht⟩) hS.2.2 dX6_turn_18
  · have h1 := RV_at gV c5
    refine lv_iload_n hx hb dX6_turn_8 rfl (lv_at hl 2 rfl) ?_
    refine lv_iconst (v := zI 0) hx hb dX6_turn_9 rfl ?_
    refine lv_iconst (v := zI 2) hx hb dX6_turn_10 rfl ?_
    refine vp_callSi (va_runS (As := [.int (zI (w)), .int (zI (0)), .int (zI (2))]) (rest := []) ⟨hx, hb, hml, hown, hts⟩ (c_X6_within l w 0 2 gw (by omega) (by omega)) (va_cwS 3 hts gX6_turn_X6_within rfl rfl rfl (by decide +kernel) ⟨Nat.le_of_ble_eq_true rfl, Nat.le_of_ble_eq_true rfl⟩) ⟨fun a U g mk q => q, fun U hU hW => ⟨rfl, trivial⟩⟩ rfl rfl hl.1 rfl (lv_room (Nat.le_of_ble_eq_true rfl)) dX6_turn_11 ⟨Nat.le_of_ble_eq_true rfl, Nat.le_of_ble_eq_true rfl⟩).run (fun r hr11 => ?_)
    obtain rfl := hr11
    refine z_ifb_ne (P := (0) ≤ (w) ∧ (w) ≤ (2)) (tgt := 19) hx hb dX6_turn_14 (by decide) (fun c14 => ?_) (fun c14 => ?_)
    · refine lv_aload_n hx hb dX6_turn_19 rfl (lv_at hl 0 rfl) ?_
      refine va_get (D := D) (ci := 5) (v := .ref (a 0)) (C := RX6) (T := TX6) (N := 7) hx hb hts iX6 hown hK hP 0 rfl rfl 0 (by decide) (hts (.fieldLink RX6 9 "CancelRows" "lengths" "[I") (by decide +kernel)) (fun _ h9 => h9) rfl dX6_turn_20 ?_
      refine lv_iload_n hx hb dX6_turn_23 rfl (lv_at hl 1 rfl) ?_
      refine z_iald hx hb hK hP 1 0 rfl rfl (i.toNat) (by omega) (by omega) (by omega) dX6_turn_24 ?_
      refine z_re (e2 := ((F (i.toNat) : Nat) : Int)) (rfl) ?_
      refine lv_istore_n (lv' := [(3, .int (zI (((F (i.toNat) : Nat) : Int)))), (0, .ref x), (1, .int (zI (i))), (2, .int (zI (w)))]) hx hb dX6_turn_25 rfl hl (by decide) rfl (fun ls hl => ?_)
      refine lv_aload_n hx hb dX6_turn_26 rfl (lv_at hl 1 rfl) ?_
      refine lv_iload_n hx hb dX6_turn_27 rfl (lv_at hl 0 rfl) ?_
      refine lv_iconst (v := zI 1) hx hb dX6_turn_28 rfl ?_
      have hPc := hP.sub (ws' := [oX x a (((R : Nat) : Int))]) [0] rfl
      refine vp_callSi (va_runV (As := [.int (zI (((F (i.toNat) : Nat) : Int))), .int (zI (1))]) (rest := []) ⟨hx, hb, hml, hown, hts⟩ (c_X6_fits l D t x a R gV.1 (F i.toNat : Int) 1 (by omega) (by omega)) (cwV 2 hts gX6_turn_X6_fits rfl rfl rfl (by decide +kernel) ⟨Nat.le_of_ble_eq_true rfl, Nat.le_of_ble_eq_true rfl⟩) ⟨fun a U g mk q => ⟨q.1, q.2.1, va_K.moved (u := U) (U := U.calling g mk a) (Vm.Alike.refl U.vm) q.2.2⟩, va_recv hK hPc (ci := 5) (q0 := 0) rfl rfl, fun U hU hW => ⟨rfl, by rw [hU]; exact hPc, va_K.moved hW.alike hK⟩⟩ rfl rfl hl.1 rfl (lv_room (Nat.le_of_ble_eq_true rfl)) dX6_turn_29 ⟨Nat.le_of_ble_eq_true rfl, Nat.le_of_ble_eq_true rfl⟩).run (fun r hr29 => ?_)
      obtain rfl := hr29
      refine z_ifb_eq (P := (((F (i.toNat) : Nat) : Int)) ≤ 32 ∧ (R : Int) + (1) ≤ 24) (tgt := 56) hx hb dX6_turn_32 (by decide) (fun c32 => ?_) (fun c32 => ?_)
      · refine lv_bipush (v := zI (-3)) hx hb dX6_turn_56 (by decide +kernel) ?_
        have hP := hP.sub (ws' := [oX x a (((R : Nat) : Int)), aI t (a 0) 24 (cN (F)), aJ t (a 1) 24 (G)]) [0, 1, 2] rfl
        have hD := hD.sub (ws' := [oX x a (((R : Nat) : Int)), aI t (a 0) 24 (cN (F)), aJ t (a 1) 24 (G)]) [0, 1, 2] (by decide) rfl
        exact W.iret (v := (zI ((-3)))) hx hb hr (fun tq ht hW => ⟨⟨_, (R, F, G), rfl, by rw [sp_turn, if_pos ⟨c5, c14⟩, sp_add_n (by omega)]; exact ⟨rfl, rfl⟩, by rw [ht]; exact hP, va_K.moved hW.alike hK, hD⟩, hS.F ht⟩) hS.2.2 dX6_turn_58
      · refine lv_aload_n hx hb dX6_turn_35 rfl (lv_at hl 1 rfl) ?_
        refine lv_iload_n hx hb dX6_turn_36 rfl (lv_at hl 0 rfl) ?_
        refine lv_aload_n hx hb dX6_turn_37 rfl (lv_at hl 1 rfl) ?_
        refine va_get (D := D) (ci := 5) (v := .ref (a 1)) (C := RX6) (T := TX6) (N := 7) hx hb hts iX6 hown hK hP 0 rfl rfl 1 (by decide) (hts (.fieldLink RX6 13 "CancelRows" "numbers" "[J") (by decide +kernel)) (fun _ h9 => h9) rfl dX6_turn_38 ?_
        refine lv_iload_n hx hb dX6_turn_41 rfl (lv_at hl 2 rfl) ?_
        refine l_lald hx hb hK hP 2 1 rfl rfl (i.toNat) (by omega) (by omega) (by omega) dX6_turn_42 ?_
        refine lv_iload_n hx hb dX6_turn_43 rfl (lv_at hl 0 rfl) ?_
        refine lv_iconst (v := zI 1) hx hb dX6_turn_44 rfl ?_
        refine lv_iload_n hx hb dX6_turn_45 rfl (lv_at hl 3 rfl) ?_
        refine z_re (e2 := ((w.toNat : Nat) : Int)) (by omega) ?_
        refine z_ishl hx hb (q := w.toNat) (by omega) dX6_turn_46 ?_
        refine z_re (e2 := ((2 ^ w.toNat : Nat) : Int)) (by rw [Int.one_mul, Int.natCast_pow]; rfl) ?_
        refine vp_callSl (va_runS (As := [.long (lN ((G) (i.toNat))), .int (zI (((F (i.toNat) : Nat) : Int))), .int (zI (((2 ^ w.toNat : Nat) : Int)))]) (rest := [.int (zI (((F (i.toNat) : Nat) : Int))), .ref x]) ⟨hx, hb, hml, hown, hts⟩ (c_X3_turned l (G i.toNat) (F i.toNat) (2 ^ w.toNat) h1.2.1 h1.2.2 (by rcases (show w.toNat = 0 ∨ w.toNat = 1 ∨ w.toNat = 2 by omega) with z | z | z <;> rw [z] <;> decide)) (va_cwS 3 hts gX6_turn_X3_turned rfl rfl rfl (by decide +kernel) ⟨Nat.le_of_ble_eq_true rfl, Nat.le_of_ble_eq_true rfl⟩) ⟨fun a U g mk q => q, fun U hU hW => ⟨rfl, trivial⟩⟩ rfl rfl hl.1 rfl (lv_room (Nat.le_of_ble_eq_true rfl)) dX6_turn_47 ⟨Nat.le_of_ble_eq_true rfl, Nat.le_of_ble_eq_true rfl⟩).run (fun r hr47 => ?_)
        obtain rfl := hr47
        refine n_re (e2 := trn (F i.toNat) (G i.toNat) w.toNat) (trn_TWw _ _ _ (by omega)) ?_
        have hPc := hP.sub (ws' := [oX x a (((R : Nat) : Int)), aI t (a 0) 24 (cN F), aJ t (a 1) 24 (G)]) [0, 1, 2] rfl
        have hDc := hD.sub (ws' := [oX x a (((R : Nat) : Int)), aI t (a 0) 24 (cN F), aJ t (a 1) 24 (G)]) [0, 1, 2] (by decide) rfl
        have hFc := va_free (wc := [oX x a (((R : Nat) : Int)), aI t (a 0) 24 (cN F), aJ t (a 1) 24 (G)]) hD hS hA [0, 1, 2] rfl
        refine va_calli (va_runV (As := [.int (zI (((F (i.toNat) : Nat) : Int))), .long (lN (trn (F i.toNat) (G i.toNat) w.toNat))]) (rest := []) ⟨hx, hb, hml, hown, hts⟩ (c_X6_added l D t s.heap.size x a (R) (F) (G) (by omega) (F i.toNat) (trn (F i.toNat) (G i.toNat) w.toNat) (by omega)) (cwV 2 hts gX6_turn_X6_added rfl rfl rfl (by decide +kernel) ⟨Nat.le_of_ble_eq_true rfl, Nat.le_of_ble_eq_true rfl⟩) ⟨fun a U g mk q => by obtain ⟨q0, q1, qP, qK, qD⟩ := q; exact ⟨q0, q1, qP, va_K.moved (u := U) (U := U.calling g mk a) (Vm.Alike.refl U.vm) qK, qD⟩, va_recv hK hPc (ci := 5) (q0 := 0) rfl rfl, fun U hU hW => ⟨rfl, by rw [hU], by rw [hU]; exact hPc, va_K.moved hW.alike hK, hDc.weaken (fun _ _ _ _ => trivial)⟩⟩ rfl rfl hl.1 rfl (lv_room (Nat.le_of_ble_eq_true rfl)) dX6_turn_50 ⟨Nat.le_of_ble_eq_true rfl, Nat.le_of_ble_eq_true rfl⟩) hS (fun q _ h => hFc q h) hFc (fun r u tq H1 locs ht hvm hr50 hB hz1 hk1 hS => ?_)
        obtain ⟨R2, F2, G2⟩ := u
        obtain ⟨hP1, hK1, hD1⟩ := hB
        rw [ht] at hP1
        obtain ⟨hP, hD⟩ := va_join (wr := []) (w1 := [oX x a (((R2 : Nat) : Int)), aI t (a 0) 24 (cN (F2)), aJ t (a 1) 24 (G2)]) hP hD [0, 1, 2] [] rfl rfl (by decide) (by decide) hk1 hFc hP1 hD1
        generalize H1 = H at hP hS ⊢
        have hP : va_P D vwCl [oX x a (((R2 : Nat) : Int)), aI t (a 0) 24 (cN (F2)), aJ t (a 1) 24 (G2)] H := hP
        have hD : va_D AA [oX x a (((R2 : Nat) : Int)), aI t (a 0) 24 (cN (F2)), aJ t (a 1) 24 (G2)] := hD
        obtain ⟨rfl, hu⟩ := hr50
        obtain ⟨rfl, rfl, rfl⟩ : R2 = R + 1 ∧ F2 = va_up (F) (R) (F i.toNat) ∧ G2 = va_up (G) (R) (trn (F i.toNat) (G i.toNat) w.toNat) := ⟨congrArg (·.1) hu, congrArg (·.2.1) hu, congrArg (·.2.2) hu⟩
        refine lv_goto (tgt := 58) hx hb dX6_turn_53 (by decide) ?_
        have hP := hP.sub (ws' := [oX x a (((R + 1 : Nat) : Int)), aI t (a 0) 24 (cN (va_up F R (F i.toNat))), aJ t (a 1) 24 (va_up G R (trn (F i.toNat) (G i.toNat) w.toNat))]) [0, 1, 2] rfl
        have hD := hD.sub (ws' := [oX x a (((R + 1 : Nat) : Int)), aI t (a 0) 24 (cN (va_up F R (F i.toNat))), aJ t (a 1) 24 (va_up G R (trn (F i.toNat) (G i.toNat) w.toNat))]) [0, 1, 2] (by decide) rfl
        exact W.iret (v := (zI (((R : Nat) : Int)))) hx hb hr (fun tq ht hW => ⟨⟨_, (R + 1, va_up F R (F i.toNat), va_up G R (trn (F i.toNat) (G i.toNat) w.toNat)), rfl, by rw [sp_turn, if_pos ⟨c5, c14⟩, sp_add_y (by omega)]; exact ⟨rfl, rfl⟩, by rw [ht]; exact hP, va_K.moved hW.alike hK, hD⟩, hS.F ht⟩) hS.2.2 dX6_turn_58
    · refine lv_iconst (v := zI (-1)) hx hb dX6_turn_17 rfl ?_
      have hP := hP.sub (ws' := [oX x a (((R : Nat) : Int)), aI t (a 0) 24 (cN (F)), aJ t (a 1) 24 (G)]) [0, 1, 2] rfl
      have hD := hD.sub (ws' := [oX x a (((R : Nat) : Int)), aI t (a 0) 24 (cN (F)), aJ t (a 1) 24 (G)]) [0, 1, 2] (by decide) rfl
      exact W.iret (v := (zI ((-1)))) hx hb hr (fun tq ht hW => ⟨⟨_, (R, F, G), rfl, by rw [sp_turn, if_neg (fun z => c14 z.2)]; exact ⟨rfl, rfl⟩, by rw [ht]; exact hP, va_K.moved hW.alike hK, hD⟩, hS.F ht⟩) hS.2.2 dX6_turn_18

-- put
set_option maxHeartbeats 4000000 in
set_option maxRecDepth 100000 in
theorem c_X6_put (l : Launch) (D : va_G) (t : Nat → ClassId) (sz : Nat) (x : Nat) (a : Nat → Nat) (R : Nat) (F G : Nat → Nat) (gV : RV R F G) (i j : Int) (gi : -2147483648 ≤ i ∧ i < 2147483648) (gj : -2147483648 ≤ j ∧ j < 2147483648) : Met l yX6_put wsX6_put ({ frames := 2, cells := 0, slots := 0, locals := 43 }) (va_Pc [.ref x, .int (zI (i)), .int (zI (j))] (fun U => U.heap.size = sz ∧ va_P D vwCl ([oX x a (((R : Nat) : Int)), aI t (a 0) 24 (cN F), aJ t (a 1) 24 (G)]) U.heap ∧ va_K D vwCl (TY t) U ∧ va_D (fun _ => True) ([oX x a (((R : Nat) : Int)), aI t (a 0) 24 (cN F), aJ t (a 1) 24 (G)]))) (va_Qi (fun r (u : RT) => r = zI (sp_put R F G i j).1 ∧ u = (sp_put R F G i j).2) (fun (u : RT) t1 => va_P D vwCl ([oX x a (((u.1 : Nat) : Int)), aI t (a 0) 24 (cN (u.2.1)), aJ t (a 1) 24 (u.2.2)]) t1.heap ∧ va_K D vwCl (TY t) t1 ∧ va_D (va_A ([oX x a (((R : Nat) : Int)), aI t (a 0) 24 (cN F), aJ t (a 1) 24 (G)]) sz) ([oX x a (((u.1 : Nat) : Int)), aI t (a 0) 24 (cN (u.2.1)), aJ t (a 1) 24 (u.2.2)])) (va_A ([oX x a (((R : Nat) : Int)), aI t (a 0) 24 (cN F), aJ t (a 1) 24 (G)]) sz)) 0 0 (va_A ([oX x a (((R : Nat) : Int)), aI t (a 0) 24 (cN F), aJ t (a 1) 24 (G)]) sz) := by
  refine Met.ofW (cc := cX6_put) (maxL := 4) (ret := (some .int)) (by decide) rfl ?_
  intro p e s m args below meth c s₁ B hml hv
  obtain ⟨rfl, hsz, hP, hK, hD0⟩ := hv
  have hx := B.exec
  have hb := B.bytes
  have hr := B.returns
  have hts := atoms_spec (ws := wsX6_put) B.pre
  have hown : s.vm.findClass RX6 = some m.cls := findClass_of_methodNamed B.named
  have hlocks := B.notSynchronized
  subst hsz
  have hD := hD0.self (sz := s.heap.size)
  generalize hAe : va_A ([oX x a (((R : Nat) : Int)), aI t (a 0) 24 (cN F), aJ t (a 1) 24 (G)]) s.heap.size = AA at hD ⊢
  have hA : ∀ q : Nat, s.heap.size ≤ q → AA q := fun q h => by rw [← hAe]; exact Or.inr h
  have hS : va_S AA s.heap s.heap [] := va_S.rf
  have hP : va_P D vwCl ([oX x a (((R : Nat) : Int)), aI t (a 0) 24 (cN F), aJ t (a 1) 24 (G)]) s.heap := hP
  have hl := lv_entry ([.ref x, .int (zI (i)), .int (zI (j))]) (n := 4) (Nat.le_of_ble_eq_true rfl)
  rw [lg_entry_eq]
  generalize (lg_sl ([.ref x, .int (zI (i)), .int (zI (j))]) ++ List.replicate (4 - (lg_sl ([.ref x, .int (zI (i)), .int (zI (j))])).length) Slot.unset).toArray = ls at hl ⊢
  have hl : lv_has ls 4 [(0, .ref x), (1, .int (zI (i))), (2, .int (zI (j)))] := hl
  have iX6 : ∀ w ∈ u_ws RX6 TX6 7, w ∈ wsX6_put := by decide +kernel
  have gR := gV.1
  refine lv_aload_n hx hb dX6_put_0 rfl (lv_at hl 0 rfl) ?_
  refine lv_iload_n hx hb dX6_put_1 rfl (lv_at hl 1 rfl) ?_
  have hPc := hP.sub (ws' := [oX x a (((R : Nat) : Int))]) [0] rfl
  refine vp_callSi (va_runV (As := [.int (zI (i))]) (rest := []) ⟨hx, hb, hml, hown, hts⟩ (c_X6_isRow l D t x a R gV.1 i gi) (cwV 1 hts gX6_put_X6_isRow rfl rfl rfl (by decide +kernel) ⟨Nat.le_of_ble_eq_true rfl, Nat.le_of_ble_eq_true rfl⟩) ⟨fun a U g mk q => ⟨q.1, q.2.1, va_K.moved (u := U) (U := U.calling g mk a) (Vm.Alike.refl U.vm) q.2.2⟩, va_recv hK hPc (ci := 5) (q0 := 0) rfl rfl, fun U hU hW => ⟨rfl, by rw [hU]; exact hPc, va_K.moved hW.alike hK⟩⟩ rfl rfl hl.1 rfl (lv_room (Nat.le_of_ble_eq_true rfl)) dX6_put_2 ⟨Nat.le_of_ble_eq_true rfl, Nat.le_of_ble_eq_true rfl⟩).run (fun r hr2 => ?_)
  obtain rfl := hr2
  refine z_ifb_eq (P := inR R (i)) (tgt := 16) hx hb dX6_put_5 (by decide) (fun c5 => ?_) (fun c5 => ?_)
  · refine lv_iconst (v := zI (-1)) hx hb dX6_put_16 rfl ?_
    have hP := hP.sub (ws' := [oX x a (((R : Nat) : Int)), aI t (a 0) 24 (cN (F)), aJ t (a 1) 24 (G)]) [0, 1, 2] rfl
    have hD := hD.sub (ws' := [oX x a (((R : Nat) : Int)), aI t (a 0) 24 (cN (F)), aJ t (a 1) 24 (G)]) [0, 1, 2] (by decide) rfl
    exact W.iret (v := (zI ((-1)))) hx hb hr (fun tq ht hW => ⟨⟨_, (R, F, G), rfl, by rw [sp_put, if_neg (fun z => c5 z.1)]; exact ⟨rfl, rfl⟩, by rw [ht]; exact hP, va_K.moved hW.alike hK, hD⟩, hS.F ht⟩) hS.2.2 dX6_put_17
  · have h1 := RV_at gV c5
    refine lv_aload_n hx hb dX6_put_8 rfl (lv_at hl 0 rfl) ?_
    refine lv_iload_n hx hb dX6_put_9 rfl (lv_at hl 2 rfl) ?_
    have hPc := hP.sub (ws' := [oX x a (((R : Nat) : Int))]) [0] rfl
    refine vp_callSi (va_runV (As := [.int (zI (j))]) (rest := []) ⟨hx, hb, hml, hown, hts⟩ (c_X6_isRow l D t x a R gV.1 j gj) (cwV 1 hts gX6_put_X6_isRow rfl rfl rfl (by decide +kernel) ⟨Nat.le_of_ble_eq_true rfl, Nat.le_of_ble_eq_true rfl⟩) ⟨fun a U g mk q => ⟨q.1, q.2.1, va_K.moved (u := U) (U := U.calling g mk a) (Vm.Alike.refl U.vm) q.2.2⟩, va_recv hK hPc (ci := 5) (q0 := 0) rfl rfl, fun U hU hW => ⟨rfl, by rw [hU]; exact hPc, va_K.moved hW.alike hK⟩⟩ rfl rfl hl.1 rfl (lv_room (Nat.le_of_ble_eq_true rfl)) dX6_put_10 ⟨Nat.le_of_ble_eq_true rfl, Nat.le_of_ble_eq_true rfl⟩).run (fun r hr10 => ?_)
    obtain rfl := hr10
    refine z_ifb_ne (P := inR R (j)) (tgt := 18) hx hb dX6_put_13 (by decide) (fun c13 => ?_) (fun c13 => ?_)
    · have h2 := RV_at gV c13
      refine lv_aload_n hx hb dX6_put_18 rfl (lv_at hl 0 rfl) ?_
      refine va_get (D := D) (ci := 5) (v := .ref (a 0)) (C := RX6) (T := TX6) (N := 7) hx hb hts iX6 hown hK hP 0 rfl rfl 0 (by decide) (hts (.fieldLink RX6 9 "CancelRows" "lengths" "[I") (by decide +kernel)) (fun _ h9 => h9) rfl dX6_put_19 ?_
      refine lv_iload_n hx hb dX6_put_22 rfl (lv_at hl 1 rfl) ?_
      refine z_iald hx hb hK hP 1 0 rfl rfl (i.toNat) (by omega) (by omega) (by omega) dX6_put_23 ?_
      refine z_re (e2 := ((F (i.toNat) : Nat) : Int)) (rfl) ?_
      refine lv_aload_n hx hb dX6_put_24 rfl (lv_at hl 0 rfl) ?_
      refine va_get (D := D) (ci := 5) (v := .ref (a 0)) (C := RX6) (T := TX6) (N := 7) hx hb hts iX6 hown hK hP 0 rfl rfl 0 (by decide) (hts (.fieldLink RX6 9 "CancelRows" "lengths" "[I") (by decide +kernel)) (fun _ h9 => h9) rfl dX6_put_25 ?_
      refine lv_iload_n hx hb dX6_put_28 rfl (lv_at hl 2 rfl) ?_
      refine z_iald hx hb hK hP 1 0 rfl rfl (j.toNat) (by omega) (by omega) (by omega) dX6_put_29 ?_
      refine z_re (e2 := ((F (j.toNat) : Nat) : Int)) (rfl) ?_
      refine z_iadd hx hb dX6_put_30 ?_
      refine z_re (e2 := ((F (i.toNat) + F (j.toNat) : Nat) : Int)) (by omega) ?_
      refine lv_istore_n (lv' := [(3, .int (zI (((F (i.toNat) + F (j.toNat) : Nat) : Int)))), (0, .ref x), (1, .int (zI (i))), (2, .int (zI (j)))]) hx hb dX6_put_31 rfl hl (by decide) rfl (fun ls hl => ?_)
      refine lv_aload_n hx hb dX6_put_32 rfl (lv_at hl 1 rfl) ?_
      refine lv_iload_n hx hb dX6_put_33 rfl (lv_at hl 0 rfl) ?_
      refine lv_iconst (v := zI 1) hx hb dX6_put_34 rfl ?_
      have hPc := hP.sub (ws' := [oX x a (((R : Nat) : Int))]) [0] rfl
      refine vp_callSi (va_runV (As := [.int (zI (((F (i.toNat) + F (j.toNat) : Nat) : Int))), .int (zI (1))]) (rest := []) ⟨hx, hb, hml, hown, hts⟩ (c_X6_fits l D t x a R gV.1 ((F i.toNat + F j.toNat : Nat) : Int) 1 (by omega) (by omega)) (cwV 2 hts gX6_put_X6_fits rfl rfl rfl (by decide +kernel) ⟨Nat.le_of_ble_eq_true rfl, Nat.le_of_ble_eq_true rfl⟩) ⟨fun a U g mk q => ⟨q.1, q.2.1, va_K.moved (u := U) (U := U.calling g mk a) (Vm.Alike.refl U.vm) q.2.2⟩, va_recv hK hPc (ci := 5) (q0 := 0) rfl rfl, fun U hU hW => ⟨rfl, by rw [hU]; exact hPc, va_K.moved hW.alike hK⟩⟩ rfl rfl hl.1 rfl (lv_room (Nat.le_of_ble_eq_true rfl)) dX6_put_35 ⟨Nat.le_of_ble_eq_true rfl, Nat.le_of_ble_eq_true rfl⟩).run (fun r hr35 => ?_)
      obtain rfl := hr35
      refine z_ifb_eq (P := (((F (i.toNat) + F (j.toNat) : Nat) : Int)) ≤ 32 ∧ (R : Int) + (1) ≤ 24) (tgt := 70) hx hb dX6_put_38 (by decide) (fun c38 => ?_) (fun c38 => ?_)
      · refine lv_bipush (v := zI (-3)) hx hb dX6_put_70 (by decide +kernel) ?_
        have hP := hP.sub (ws' := [oX x a (((R : Nat) : Int)), aI t (a 0) 24 (cN (F)), aJ t (a 1) 24 (G)]) [0, 1, 2] rfl
        have hD := hD.sub (ws' := [oX x a (((R : Nat) : Int)), aI t (a 0) 24 (cN (F)), aJ t (a 1) 24 (G)]) [0, 1, 2] (by decide) rfl
        exact W.iret (v := (zI ((-3)))) hx hb hr (fun tq ht hW => ⟨⟨_, (R, F, G), rfl, by rw [sp_put, if_pos ⟨c5, c13⟩, sp_add_n (by omega)]; exact ⟨rfl, rfl⟩, by rw [ht]; exact hP, va_K.moved hW.alike hK, hD⟩, hS.F ht⟩) hS.2.2 dX6_put_72
      · refine lv_aload_n hx hb dX6_put_41 rfl (lv_at hl 1 rfl) ?_
        refine lv_iload_n hx hb dX6_put_42 rfl (lv_at hl 0 rfl) ?_
        refine lv_aload_n hx hb dX6_put_43 rfl (lv_at hl 1 rfl) ?_
        refine va_get (D := D) (ci := 5) (v := .ref (a 1)) (C := RX6) (T := TX6) (N := 7) hx hb hts iX6 hown hK hP 0 rfl rfl 1 (by decide) (hts (.fieldLink RX6 13 "CancelRows" "numbers" "[J") (by decide +kernel)) (fun _ h9 => h9) rfl dX6_put_44 ?_
        refine lv_iload_n hx hb dX6_put_47 rfl (lv_at hl 2 rfl) ?_
        refine l_lald hx hb hK hP 2 1 rfl rfl (i.toNat) (by omega) (by omega) (by omega) dX6_put_48 ?_
        refine lv_aload_n hx hb dX6_put_49 rfl (lv_at hl 1 rfl) ?_
        refine va_get (D := D) (ci := 5) (v := .ref (a 0)) (C := RX6) (T := TX6) (N := 7) hx hb hts iX6 hown hK hP 0 rfl rfl 0 (by decide) (hts (.fieldLink RX6 9 "CancelRows" "lengths" "[I") (by decide +kernel)) (fun _ h9 => h9) rfl dX6_put_50 ?_
        refine lv_iload_n hx hb dX6_put_53 rfl (lv_at hl 2 rfl) ?_
        refine z_iald hx hb hK hP 1 0 rfl rfl (i.toNat) (by omega) (by omega) (by omega) dX6_put_54 ?_
        refine z_re (e2 := ((F (i.toNat) : Nat) : Int)) (rfl) ?_
        refine lv_aload_n hx hb dX6_put_55 rfl (lv_at hl 1 rfl) ?_
        refine va_get (D := D) (ci := 5) (v := .ref (a 1)) (C := RX6) (T := TX6) (N := 7) hx hb hts iX6 hown hK hP 0 rfl rfl 1 (by decide) (hts (.fieldLink RX6 13 "CancelRows" "numbers" "[J") (by decide +kernel)) (fun _ h9 => h9) rfl dX6_put_56 ?_
        refine lv_iload_n hx hb dX6_put_59 rfl (lv_at hl 3 rfl) ?_
        refine l_lald hx hb hK hP 2 1 rfl rfl (j.toNat) (by omega) (by omega) (by omega) dX6_put_60 ?_
        refine vp_callSl (va_runS (As := [.long (lN ((G) (i.toNat))), .int (zI (((F (i.toNat) : Nat) : Int))), .long (lN ((G) (j.toNat)))]) (rest := [.int (zI (((F (i.toNat) + F (j.toNat) : Nat) : Int))), .ref x]) ⟨hx, hb, hml, hown, hts⟩ (c_X3_joined l (G i.toNat) (F i.toNat) (G j.toNat) (by omega)) (va_cwS 3 hts gX6_put_X3_joined rfl rfl rfl (by decide +kernel) ⟨Nat.le_of_ble_eq_true rfl, Nat.le_of_ble_eq_true rfl⟩) ⟨fun a U g mk q => q, fun U hU hW => ⟨rfl, trivial⟩⟩ rfl rfl hl.1 rfl (lv_room (Nat.le_of_ble_eq_true rfl)) dX6_put_61 ⟨Nat.le_of_ble_eq_true rfl, Nat.le_of_ble_eq_true rfl⟩).run (fun r hr61 => ?_)
        obtain rfl := hr61
        have hPc := hP.sub (ws' := [oX x a (((R : Nat) : Int)), aI t (a 0) 24 (cN F), aJ t (a 1) 24 (G)]) [0, 1, 2] rfl
        have hDc := hD.sub (ws' := [oX x a (((R : Nat) : Int)), aI t (a 0) 24 (cN F), aJ t (a 1) 24 (G)]) [0, 1, 2] (by decide) rfl
        have hFc := va_free (wc := [oX x a (((R : Nat) : Int)), aI t (a 0) 24 (cN F), aJ t (a 1) 24 (G)]) hD hS hA [0, 1, 2] rfl
        refine va_calli (va_runV (As := [.int (zI (((F (i.toNat) + F (j.toNat) : Nat) : Int))), .long (lN (jn ((G) (i.toNat)) (F (i.toNat)) ((G) (j.toNat))))]) (rest := []) ⟨hx, hb, hml, hown, hts⟩ (c_X6_added l D t s.heap.size x a (R) (F) (G) (by omega) (F i.toNat + F j.toNat) (jn (G i.toNat) (F i.toNat) (G j.toNat)) (by omega)) (cwV 2 hts gX6_put_X6_added rfl rfl rfl (by decide +kernel) ⟨Nat.le_of_ble_eq_true rfl, Nat.le_of_ble_eq_true rfl⟩) ⟨fun a U g mk q => by obtain ⟨q0, q1, qP, qK, qD⟩ := q; exact ⟨q0, q1, qP, va_K.moved (u := U) (U := U.calling g mk a) (Vm.Alike.refl U.vm) qK, qD⟩, va_recv hK hPc (ci := 5) (q0 := 0) rfl rfl, fun U hU hW => ⟨rfl, by rw [hU], by rw [hU]; exact hPc, va_K.moved hW.alike hK, hDc.weaken (fun _ _ _ _ => trivial)⟩⟩ rfl rfl hl.1 rfl (lv_room (Nat.le_of_ble_eq_true rfl)) dX6_put_64 ⟨Nat.le_of_ble_eq_true rfl, Nat.le_of_ble_eq_true rfl⟩) hS (fun q _ h => hFc q h) hFc (fun r u tq H1 locs ht hvm hr64 hB hz1 hk1 hS => ?_)
        obtain ⟨R2, F2, G2⟩ := u
        obtain ⟨hP1, hK1, hD1⟩ := hB
        rw [ht] at hP1
        obtain ⟨hP, hD⟩ := va_join (wr := []) (w1 := [oX x a (((R2 : Nat) : Int)), aI t (a 0) 24 (cN (F2)), aJ t (a 1) 24 (G2)]) hP hD [0, 1, 2] [] rfl rfl (by decide) (by decide) hk1 hFc hP1 hD1
        generalize H1 = H at hP hS ⊢
        have hP : va_P D vwCl [oX x a (((R2 : Nat) : Int)), aI t (a 0) 24 (cN (F2)), aJ t (a 1) 24 (G2)] H := hP
        have hD : va_D AA [oX x a (((R2 : Nat) : Int)), aI t (a 0) 24 (cN (F2)), aJ t (a 1) 24 (G2)] := hD
        obtain ⟨rfl, hu⟩ := hr64
        obtain ⟨rfl, rfl, rfl⟩ : R2 = R + 1 ∧ F2 = va_up (F) (R) (F i.toNat + F j.toNat) ∧ G2 = va_up (G) (R) (jn (G i.toNat) (F i.toNat) (G j.toNat)) := ⟨congrArg (·.1) hu, congrArg (·.2.1) hu, congrArg (·.2.2) hu⟩
        refine lv_goto (tgt := 72) hx hb dX6_put_67 (by decide) ?_
        have hP := hP.sub (ws' := [oX x a (((R + 1 : Nat) : Int)), aI t (a 0) 24 (cN (va_up F R (F i.toNat + F j.toNat))), aJ t (a 1) 24 (va_up G R (jn (G i.toNat) (F i.toNat) (G j.toNat)))]) [0, 1, 2] rfl
        have hD := hD.sub (ws' := [oX x a (((R + 1 : Nat) : Int)), aI t (a 0) 24 (cN (va_up F R (F i.toNat + F j.toNat))), aJ t (a 1) 24 (va_up G R (jn (G i.toNat) (F i.toNat) (G j.toNat)))]) [0, 1, 2] (by decide) rfl
        exact W.iret (v := (zI (((R : Nat) : Int)))) hx hb hr (fun tq ht hW => ⟨⟨_, (R + 1, va_up F R (F i.toNat + F j.toNat), va_up G R (jn (G i.toNat) (F i.toNat) (G j.toNat))), rfl, by rw [sp_put, if_pos ⟨c5, c13⟩, sp_add_y (by omega)]; exact ⟨rfl, rfl⟩, by rw [ht]; exact hP, va_K.moved hW.alike hK, hD⟩, hS.F ht⟩) hS.2.2 dX6_put_72
    · refine lv_iconst (v := zI (-1)) hx hb dX6_put_16 rfl ?_
      have hP := hP.sub (ws' := [oX x a (((R : Nat) : Int)), aI t (a 0) 24 (cN (F)), aJ t (a 1) 24 (G)]) [0, 1, 2] rfl
      have hD := hD.sub (ws' := [oX x a (((R : Nat) : Int)), aI t (a 0) 24 (cN (F)), aJ t (a 1) 24 (G)]) [0, 1, 2] (by decide) rfl
      exact W.iret (v := (zI ((-1)))) hx hb hr (fun tq ht hW => ⟨⟨_, (R, F, G), rfl, by rw [sp_put, if_neg (fun z => c13 z.2)]; exact ⟨rfl, rfl⟩, by rw [ht]; exact hP, va_K.moved hW.alike hK, hD⟩, hS.F ht⟩) hS.2.2 dX6_put_17

-- weave
set_option maxHeartbeats 4000000 in
set_option maxRecDepth 100000 in
theorem c_X6_weave (l : Launch) (D : va_G) (t : Nat → ClassId) (sz : Nat) (x : Nat) (a : Nat → Nat) (R : Nat) (F G : Nat → Nat) (gV : RV R F G) (i j : Int) (gi : -2147483648 ≤ i ∧ i < 2147483648) (gj : -2147483648 ≤ j ∧ j < 2147483648) : Met l yX6_weave wsX6_weave ({ frames := 3, cells := 0, slots := 0, locals := 65 }) (va_Pc [.ref x, .int (zI (i)), .int (zI (j))] (fun U => U.heap.size = sz ∧ va_P D vwCl ([oX x a (((R : Nat) : Int)), aI t (a 0) 24 (cN F), aJ t (a 1) 24 (G)]) U.heap ∧ va_K D vwCl (TY t) U ∧ va_D (fun _ => True) ([oX x a (((R : Nat) : Int)), aI t (a 0) 24 (cN F), aJ t (a 1) 24 (G)]))) (va_Qi (fun r (u : RT) => r = zI (sp_weave R F G i j).1 ∧ u = (sp_weave R F G i j).2) (fun (u : RT) t1 => va_P D vwCl ([oX x a (((u.1 : Nat) : Int)), aI t (a 0) 24 (cN (u.2.1)), aJ t (a 1) 24 (u.2.2)]) t1.heap ∧ va_K D vwCl (TY t) t1 ∧ va_D (va_A ([oX x a (((R : Nat) : Int)), aI t (a 0) 24 (cN F), aJ t (a 1) 24 (G)]) sz) ([oX x a (((u.1 : Nat) : Int)), aI t (a 0) 24 (cN (u.2.1)), aJ t (a 1) 24 (u.2.2)])) (va_A ([oX x a (((R : Nat) : Int)), aI t (a 0) 24 (cN F), aJ t (a 1) 24 (G)]) sz)) 0 0 (va_A ([oX x a (((R : Nat) : Int)), aI t (a 0) 24 (cN F), aJ t (a 1) 24 (G)]) sz) := by
  refine Met.ofW (cc := cX6_weave) (maxL := 4) (ret := (some .int)) (by decide) rfl ?_
  intro p e s m args below meth c s₁ B hml hv
  obtain ⟨rfl, hsz, hP, hK, hD0⟩ := hv
  have hx := B.exec
  have hb := B.bytes
  have hr := B.returns
  have hts := atoms_spec (ws := wsX6_weave) B.pre
  have hown : s.vm.findClass RX6 = some m.cls := findClass_of_methodNamed B.named
  have hlocks := B.notSynchronized
  subst hsz
  have hD := hD0.self (sz := s.heap.size)
  generalize hAe : va_A ([oX x a (((R : Nat) : Int)), aI t (a 0) 24 (cN F), aJ t (a 1) 24 (G)]) s.heap.size = AA at hD ⊢
  have hA : ∀ q : Nat, s.heap.size ≤ q → AA q := fun q h => by rw [← hAe]; exact Or.inr h
  have hS : va_S AA s.heap s.heap [] := va_S.rf
  have hP : va_P D vwCl ([oX x a (((R : Nat) : Int)), aI t (a 0) 24 (cN F), aJ t (a 1) 24 (G)]) s.heap := hP
  have hl := lv_entry ([.ref x, .int (zI (i)), .int (zI (j))]) (n := 4) (Nat.le_of_ble_eq_true rfl)
  rw [lg_entry_eq]
  generalize (lg_sl ([.ref x, .int (zI (i)), .int (zI (j))]) ++ List.replicate (4 - (lg_sl ([.ref x, .int (zI (i)), .int (zI (j))])).length) Slot.unset).toArray = ls at hl ⊢
  have hl : lv_has ls 4 [(0, .ref x), (1, .int (zI (i))), (2, .int (zI (j)))] := hl
  have iX6 : ∀ w ∈ u_ws RX6 TX6 7, w ∈ wsX6_weave := by decide +kernel
  have gR := gV.1
  refine lv_aload_n hx hb dX6_weave_0 rfl (lv_at hl 0 rfl) ?_
  refine lv_iload_n hx hb dX6_weave_1 rfl (lv_at hl 1 rfl) ?_
  refine lv_iload_n hx hb dX6_weave_2 rfl (lv_at hl 2 rfl) ?_
  have hPc := hP.sub (ws' := [oX x a (((R : Nat) : Int)), aI t (a 0) 24 (cN F)]) [0, 1] rfl
  refine vp_callSi (va_runV (As := [.int (zI (i)), .int (zI (j))]) (rest := []) ⟨hx, hb, hml, hown, hts⟩ (c_X6_areAlikeLong l D t x a R F G gV i j gi gj) (cwV 2 hts gX6_weave_X6_areAlikeLong rfl rfl rfl (by decide +kernel) ⟨Nat.le_of_ble_eq_true rfl, Nat.le_of_ble_eq_true rfl⟩) ⟨fun a U g mk q => ⟨q.1, q.2.1, va_K.moved (u := U) (U := U.calling g mk a) (Vm.Alike.refl U.vm) q.2.2⟩, va_recv hK hPc (ci := 5) (q0 := 0) rfl rfl, fun U hU hW => ⟨rfl, by rw [hU]; exact hPc, va_K.moved hW.alike hK⟩⟩ rfl rfl hl.1 rfl (lv_room (Nat.le_of_ble_eq_true rfl)) dX6_weave_3 ⟨Nat.le_of_ble_eq_true rfl, Nat.le_of_ble_eq_true rfl⟩).run (fun r hr3 => ?_)
  obtain rfl := hr3
  refine z_ifb_ne (P := inR R (i) ∧ inR R (j) ∧ F (i).toNat = F (j).toNat) (tgt := 11) hx hb dX6_weave_6 (by decide) (fun c6 => ?_) (fun c6 => ?_)
  · have h1 := RV_at gV c6.1
    have h2 := RV_at gV c6.2.1
    refine lv_iconst (v := zI 2) hx hb dX6_weave_11 rfl ?_
    refine lv_aload_n hx hb dX6_weave_12 rfl (lv_at hl 0 rfl) ?_
    refine va_get (D := D) (ci := 5) (v := .ref (a 0)) (C := RX6) (T := TX6) (N := 7) hx hb hts iX6 hown hK hP 0 rfl rfl 0 (by decide) (hts (.fieldLink RX6 9 "CancelRows" "lengths" "[I") (by decide +kernel)) (fun _ h9 => h9) rfl dX6_weave_13 ?_
    refine lv_iload_n hx hb dX6_weave_16 rfl (lv_at hl 1 rfl) ?_
    refine z_iald hx hb hK hP 1 0 rfl rfl (i.toNat) (by omega) (by omega) (by omega) dX6_weave_17 ?_
    refine z_re (e2 := ((F (i.toNat) : Nat) : Int)) (rfl) ?_
    refine z_imul hx hb dX6_weave_18 ?_
    refine z_re (e2 := ((2 * F i.toNat : Nat) : Int)) (by omega) ?_
    refine lv_istore_n (lv' := [(3, .int (zI (((2 * F i.toNat : Nat) : Int)))), (0, .ref x), (1, .int (zI (i))), (2, .int (zI (j)))]) hx hb dX6_weave_19 rfl hl (by decide) rfl (fun ls hl => ?_)
    refine lv_aload_n hx hb dX6_weave_20 rfl (lv_at hl 1 rfl) ?_
    refine lv_iload_n hx hb dX6_weave_21 rfl (lv_at hl 0 rfl) ?_
    refine lv_iconst (v := zI 1) hx hb dX6_weave_22 rfl ?_
    have hPc := hP.sub (ws' := [oX x a (((R : Nat) : Int))]) [0] rfl
    refine vp_callSi (va_runV (As := [.int (zI (((2 * F i.toNat : Nat) : Int))), .int (zI (1))]) (rest := []) ⟨hx, hb, hml, hown, hts⟩ (c_X6_fits l D t x a R gV.1 ((2 * F i.toNat : Nat) : Int) 1 (by omega) (by omega)) (cwV 2 hts gX6_weave_X6_fits rfl rfl rfl (by decide +kernel) ⟨Nat.le_of_ble_eq_true rfl, Nat.le_of_ble_eq_true rfl⟩) ⟨fun a U g mk q => ⟨q.1, q.2.1, va_K.moved (u := U) (U := U.calling g mk a) (Vm.Alike.refl U.vm) q.2.2⟩, va_recv hK hPc (ci := 5) (q0 := 0) rfl rfl, fun U hU hW => ⟨rfl, by rw [hU]; exact hPc, va_K.moved hW.alike hK⟩⟩ rfl rfl hl.1 rfl (lv_room (Nat.le_of_ble_eq_true rfl)) dX6_weave_23 ⟨Nat.le_of_ble_eq_true rfl, Nat.le_of_ble_eq_true rfl⟩).run (fun r hr23 => ?_)
    obtain rfl := hr23
    refine z_ifb_eq (P := (((2 * F i.toNat : Nat) : Int)) ≤ 32 ∧ (R : Int) + (1) ≤ 24) (tgt := 58) hx hb dX6_weave_26 (by decide) (fun c26 => ?_) (fun c26 => ?_)
    · refine lv_bipush (v := zI (-3)) hx hb dX6_weave_58 (by decide +kernel) ?_
      have hP := hP.sub (ws' := [oX x a (((R : Nat) : Int)), aI t (a 0) 24 (cN (F)), aJ t (a 1) 24 (G)]) [0, 1, 2] rfl
      have hD := hD.sub (ws' := [oX x a (((R : Nat) : Int)), aI t (a 0) 24 (cN (F)), aJ t (a 1) 24 (G)]) [0, 1, 2] (by decide) rfl
      exact W.iret (v := (zI ((-3)))) hx hb hr (fun tq ht hW => ⟨⟨_, (R, F, G), rfl, by rw [sp_weave, if_pos c6, sp_add_n (by omega)]; exact ⟨rfl, rfl⟩, by rw [ht]; exact hP, va_K.moved hW.alike hK, hD⟩, hS.F ht⟩) hS.2.2 dX6_weave_60
    · refine lv_aload_n hx hb dX6_weave_29 rfl (lv_at hl 1 rfl) ?_
      refine lv_iload_n hx hb dX6_weave_30 rfl (lv_at hl 0 rfl) ?_
      refine lv_aload_n hx hb dX6_weave_31 rfl (lv_at hl 1 rfl) ?_
      refine va_get (D := D) (ci := 5) (v := .ref (a 1)) (C := RX6) (T := TX6) (N := 7) hx hb hts iX6 hown hK hP 0 rfl rfl 1 (by decide) (hts (.fieldLink RX6 13 "CancelRows" "numbers" "[J") (by decide +kernel)) (fun _ h9 => h9) rfl dX6_weave_32 ?_
      refine lv_iload_n hx hb dX6_weave_35 rfl (lv_at hl 2 rfl) ?_
      refine l_lald hx hb hK hP 2 1 rfl rfl (i.toNat) (by omega) (by omega) (by omega) dX6_weave_36 ?_
      refine lv_aload_n hx hb dX6_weave_37 rfl (lv_at hl 1 rfl) ?_
      refine va_get (D := D) (ci := 5) (v := .ref (a 1)) (C := RX6) (T := TX6) (N := 7) hx hb hts iX6 hown hK hP 0 rfl rfl 1 (by decide) (hts (.fieldLink RX6 13 "CancelRows" "numbers" "[J") (by decide +kernel)) (fun _ h9 => h9) rfl dX6_weave_38 ?_
      refine lv_iload_n hx hb dX6_weave_41 rfl (lv_at hl 3 rfl) ?_
      refine l_lald hx hb hK hP 2 1 rfl rfl (j.toNat) (by omega) (by omega) (by omega) dX6_weave_42 ?_
      refine lv_aload_n hx hb dX6_weave_43 rfl (lv_at hl 1 rfl) ?_
      refine va_get (D := D) (ci := 5) (v := .ref (a 0)) (C := RX6) (T := TX6) (N := 7) hx hb hts iX6 hown hK hP 0 rfl rfl 0 (by decide) (hts (.fieldLink RX6 9 "CancelRows" "lengths" "[I") (by decide +kernel)) (fun _ h9 => h9) rfl dX6_weave_44 ?_
      refine lv_iload_n hx hb dX6_weave_47 rfl (lv_at hl 2 rfl) ?_
      refine z_iald hx hb hK hP 1 0 rfl rfl (i.toNat) (by omega) (by omega) (by omega) dX6_weave_48 ?_
      refine z_re (e2 := ((F (i.toNat) : Nat) : Int)) (rfl) ?_
      refine vp_callSl (va_runS (As := [.long (lN ((G) (i.toNat))), .long (lN ((G) (j.toNat))), .int (zI (((F (i.toNat) : Nat) : Int)))]) (rest := [.int (zI (((2 * F i.toNat : Nat) : Int))), .ref x]) ⟨hx, hb, hml, hown, hts⟩ (c_X3_woven l (G i.toNat) (G j.toNat) (F i.toNat) (by omega) (lt32 h1.2.2 h1.2.1) (lt32 h2.2.2 h2.2.1)) (va_cwS 3 hts gX6_weave_X3_woven rfl rfl rfl (by decide +kernel) ⟨Nat.le_of_ble_eq_true rfl, Nat.le_of_ble_eq_true rfl⟩) ⟨fun a U g mk q => q, fun U hU hW => ⟨rfl, trivial⟩⟩ rfl rfl hl.1 rfl (lv_room (Nat.le_of_ble_eq_true rfl)) dX6_weave_49 ⟨Nat.le_of_ble_eq_true rfl, Nat.le_of_ble_eq_true rfl⟩).run (fun r hr49 => ?_)
      obtain rfl := hr49
      have hPc := hP.sub (ws' := [oX x a (((R : Nat) : Int)), aI t (a 0) 24 (cN F), aJ t (a 1) 24 (G)]) [0, 1, 2] rfl
      have hDc := hD.sub (ws' := [oX x a (((R : Nat) : Int)), aI t (a 0) 24 (cN F), aJ t (a 1) 24 (G)]) [0, 1, 2] (by decide) rfl
      have hFc := va_free (wc := [oX x a (((R : Nat) : Int)), aI t (a 0) 24 (cN F), aJ t (a 1) 24 (G)]) hD hS hA [0, 1, 2] rfl
      refine va_calli (va_runV (As := [.int (zI (((2 * F i.toNat : Nat) : Int))), .long (lN (wv ((G) (i.toNat)) ((G) (j.toNat)) (F (i.toNat))))]) (rest := []) ⟨hx, hb, hml, hown, hts⟩ (c_X6_added l D t s.heap.size x a (R) (F) (G) (by omega) (2 * F i.toNat) (wv (G i.toNat) (G j.toNat) (F i.toNat)) (by omega)) (cwV 2 hts gX6_weave_X6_added rfl rfl rfl (by decide +kernel) ⟨Nat.le_of_ble_eq_true rfl, Nat.le_of_ble_eq_true rfl⟩) ⟨fun a U g mk q => by obtain ⟨q0, q1, qP, qK, qD⟩ := q; exact ⟨q0, q1, qP, va_K.moved (u := U) (U := U.calling g mk a) (Vm.Alike.refl U.vm) qK, qD⟩, va_recv hK hPc (ci := 5) (q0 := 0) rfl rfl, fun U hU hW => ⟨rfl, by rw [hU], by rw [hU]; exact hPc, va_K.moved hW.alike hK, hDc.weaken (fun _ _ _ _ => trivial)⟩⟩ rfl rfl hl.1 rfl (lv_room (Nat.le_of_ble_eq_true rfl)) dX6_weave_52 ⟨Nat.le_of_ble_eq_true rfl, Nat.le_of_ble_eq_true rfl⟩) hS (fun q _ h => hFc q h) hFc (fun r u tq H1 locs ht hvm hr52 hB hz1 hk1 hS => ?_)
      obtain ⟨R2, F2, G2⟩ := u
      obtain ⟨hP1, hK1, hD1⟩ := hB
      rw [ht] at hP1
      obtain ⟨hP, hD⟩ := va_join (wr := []) (w1 := [oX x a (((R2 : Nat) : Int)), aI t (a 0) 24 (cN (F2)), aJ t (a 1) 24 (G2)]) hP hD [0, 1, 2] [] rfl rfl (by decide) (by decide) hk1 hFc hP1 hD1
      generalize H1 = H at hP hS ⊢
      have hP : va_P D vwCl [oX x a (((R2 : Nat) : Int)), aI t (a 0) 24 (cN (F2)), aJ t (a 1) 24 (G2)] H := hP
      have hD : va_D AA [oX x a (((R2 : Nat) : Int)), aI t (a 0) 24 (cN (F2)), aJ t (a 1) 24 (G2)] := hD
      obtain ⟨rfl, hu⟩ := hr52
      obtain ⟨rfl, rfl, rfl⟩ : R2 = R + 1 ∧ F2 = va_up (F) (R) (2 * F i.toNat) ∧ G2 = va_up (G) (R) (wv (G i.toNat) (G j.toNat) (F i.toNat)) := ⟨congrArg (·.1) hu, congrArg (·.2.1) hu, congrArg (·.2.2) hu⟩
      refine lv_goto (tgt := 60) hx hb dX6_weave_55 (by decide) ?_
      have hP := hP.sub (ws' := [oX x a (((R + 1 : Nat) : Int)), aI t (a 0) 24 (cN (va_up F R (2 * F i.toNat))), aJ t (a 1) 24 (va_up G R (wv (G i.toNat) (G j.toNat) (F i.toNat)))]) [0, 1, 2] rfl
      have hD := hD.sub (ws' := [oX x a (((R + 1 : Nat) : Int)), aI t (a 0) 24 (cN (va_up F R (2 * F i.toNat))), aJ t (a 1) 24 (va_up G R (wv (G i.toNat) (G j.toNat) (F i.toNat)))]) [0, 1, 2] (by decide) rfl
      exact W.iret (v := (zI (((R : Nat) : Int)))) hx hb hr (fun tq ht hW => ⟨⟨_, (R + 1, va_up F R (2 * F i.toNat), va_up G R (wv (G i.toNat) (G j.toNat) (F i.toNat))), rfl, by rw [sp_weave, if_pos c6, sp_add_y (by omega)]; exact ⟨rfl, rfl⟩, by rw [ht]; exact hP, va_K.moved hW.alike hK, hD⟩, hS.F ht⟩) hS.2.2 dX6_weave_60
  · refine lv_iconst (v := zI (-1)) hx hb dX6_weave_9 rfl ?_
    have hP := hP.sub (ws' := [oX x a (((R : Nat) : Int)), aI t (a 0) 24 (cN (F)), aJ t (a 1) 24 (G)]) [0, 1, 2] rfl
    have hD := hD.sub (ws' := [oX x a (((R : Nat) : Int)), aI t (a 0) 24 (cN (F)), aJ t (a 1) 24 (G)]) [0, 1, 2] (by decide) rfl
    exact W.iret (v := (zI ((-1)))) hx hb hr (fun tq ht hW => ⟨⟨_, (R, F, G), rfl, by rw [sp_weave, if_neg (c6)]; exact ⟨rfl, rfl⟩, by rw [ht]; exact hP, va_K.moved hW.alike hK, hD⟩, hS.F ht⟩) hS.2.2 dX6_weave_10

-- times
set_option maxHeartbeats 4000000 in
set_option maxRecDepth 100000 in
theorem c_X6_times (l : Launch) (D : va_G) (t : Nat → ClassId) (sz : Nat) (x : Nat) (a : Nat → Nat) (R : Nat) (F G : Nat → Nat) (gV : RV R F G) (i j : Int) (gi : -2147483648 ≤ i ∧ i < 2147483648) (gj : -2147483648 ≤ j ∧ j < 2147483648) : Met l yX6_times wsX6_times ({ frames := 3, cells := 0, slots := 0, locals := 72 }) (va_Pc [.ref x, .int (zI (i)), .int (zI (j))] (fun U => U.heap.size = sz ∧ va_P D vwCl ([oX x a (((R : Nat) : Int)), aI t (a 0) 24 (cN F), aJ t (a 1) 24 (G)]) U.heap ∧ va_K D vwCl (TY t) U ∧ va_D (fun _ => True) ([oX x a (((R : Nat) : Int)), aI t (a 0) 24 (cN F), aJ t (a 1) 24 (G)]))) (va_Qi (fun r (u : RT) => r = zI (sp_times R F G i j).1 ∧ u = (sp_times R F G i j).2) (fun (u : RT) t1 => va_P D vwCl ([oX x a (((u.1 : Nat) : Int)), aI t (a 0) 24 (cN (u.2.1)), aJ t (a 1) 24 (u.2.2)]) t1.heap ∧ va_K D vwCl (TY t) t1 ∧ va_D (va_A ([oX x a (((R : Nat) : Int)), aI t (a 0) 24 (cN F), aJ t (a 1) 24 (G)]) sz) ([oX x a (((u.1 : Nat) : Int)), aI t (a 0) 24 (cN (u.2.1)), aJ t (a 1) 24 (u.2.2)])) (va_A ([oX x a (((R : Nat) : Int)), aI t (a 0) 24 (cN F), aJ t (a 1) 24 (G)]) sz)) 0 0 (va_A ([oX x a (((R : Nat) : Int)), aI t (a 0) 24 (cN F), aJ t (a 1) 24 (G)]) sz) := by
  refine Met.ofW (cc := cX6_times) (maxL := 4) (ret := (some .int)) (by decide) rfl ?_
  intro p e s m args below meth c s₁ B hml hv
  obtain ⟨rfl, hsz, hP, hK, hD0⟩ := hv
  have hx := B.exec
  have hb := B.bytes
  have hr := B.returns
  have hts := atoms_spec (ws := wsX6_times) B.pre
  have hown : s.vm.findClass RX6 = some m.cls := findClass_of_methodNamed B.named
  have hlocks := B.notSynchronized
  subst hsz
  have hD := hD0.self (sz := s.heap.size)
  generalize hAe : va_A ([oX x a (((R : Nat) : Int)), aI t (a 0) 24 (cN F), aJ t (a 1) 24 (G)]) s.heap.size = AA at hD ⊢
  have hA : ∀ q : Nat, s.heap.size ≤ q → AA q := fun q h => by rw [← hAe]; exact Or.inr h
  have hS : va_S AA s.heap s.heap [] := va_S.rf
  have hP : va_P D vwCl ([oX x a (((R : Nat) : Int)), aI t (a 0) 24 (cN F), aJ t (a 1) 24 (G)]) s.heap := hP
  have hl := lv_entry ([.ref x, .int (zI (i)), .int (zI (j))]) (n := 4) (Nat.le_of_ble_eq_true rfl)
  rw [lg_entry_eq]
  generalize (lg_sl ([.ref x, .int (zI (i)), .int (zI (j))]) ++ List.replicate (4 - (lg_sl ([.ref x, .int (zI (i)), .int (zI (j))])).length) Slot.unset).toArray = ls at hl ⊢
  have hl : lv_has ls 4 [(0, .ref x), (1, .int (zI (i))), (2, .int (zI (j)))] := hl
  have iX6 : ∀ w ∈ u_ws RX6 TX6 7, w ∈ wsX6_times := by decide +kernel
  have gR := gV.1
  refine lv_aload_n hx hb dX6_times_0 rfl (lv_at hl 0 rfl) ?_
  refine lv_iload_n hx hb dX6_times_1 rfl (lv_at hl 1 rfl) ?_
  have hPc := hP.sub (ws' := [oX x a (((R : Nat) : Int))]) [0] rfl
  refine vp_callSi (va_runV (As := [.int (zI (i))]) (rest := []) ⟨hx, hb, hml, hown, hts⟩ (c_X6_isRow l D t x a R gV.1 i gi) (cwV 1 hts gX6_times_X6_isRow rfl rfl rfl (by decide +kernel) ⟨Nat.le_of_ble_eq_true rfl, Nat.le_of_ble_eq_true rfl⟩) ⟨fun a U g mk q => ⟨q.1, q.2.1, va_K.moved (u := U) (U := U.calling g mk a) (Vm.Alike.refl U.vm) q.2.2⟩, va_recv hK hPc (ci := 5) (q0 := 0) rfl rfl, fun U hU hW => ⟨rfl, by rw [hU]; exact hPc, va_K.moved hW.alike hK⟩⟩ rfl rfl hl.1 rfl (lv_room (Nat.le_of_ble_eq_true rfl)) dX6_times_2 ⟨Nat.le_of_ble_eq_true rfl, Nat.le_of_ble_eq_true rfl⟩).run (fun r hr2 => ?_)
  obtain rfl := hr2
  refine z_ifb_eq (P := inR R (i)) (tgt := 16) hx hb dX6_times_5 (by decide) (fun c5 => ?_) (fun c5 => ?_)
  · refine lv_iconst (v := zI (-1)) hx hb dX6_times_16 rfl ?_
    have hP := hP.sub (ws' := [oX x a (((R : Nat) : Int)), aI t (a 0) 24 (cN (F)), aJ t (a 1) 24 (G)]) [0, 1, 2] rfl
    have hD := hD.sub (ws' := [oX x a (((R : Nat) : Int)), aI t (a 0) 24 (cN (F)), aJ t (a 1) 24 (G)]) [0, 1, 2] (by decide) rfl
    exact W.iret (v := (zI ((-1)))) hx hb hr (fun tq ht hW => ⟨⟨_, (R, F, G), rfl, by rw [sp_times, if_neg (fun z => c5 z.1)]; exact ⟨rfl, rfl⟩, by rw [ht]; exact hP, va_K.moved hW.alike hK, hD⟩, hS.F ht⟩) hS.2.2 dX6_times_17
  · have h1 := RV_at gV c5
    refine lv_aload_n hx hb dX6_times_8 rfl (lv_at hl 0 rfl) ?_
    refine lv_iload_n hx hb dX6_times_9 rfl (lv_at hl 2 rfl) ?_
    have hPc := hP.sub (ws' := [oX x a (((R : Nat) : Int))]) [0] rfl
    refine vp_callSi (va_runV (As := [.int (zI (j))]) (rest := []) ⟨hx, hb, hml, hown, hts⟩ (c_X6_isRow l D t x a R gV.1 j gj) (cwV 1 hts gX6_times_X6_isRow rfl rfl rfl (by decide +kernel) ⟨Nat.le_of_ble_eq_true rfl, Nat.le_of_ble_eq_true rfl⟩) ⟨fun a U g mk q => ⟨q.1, q.2.1, va_K.moved (u := U) (U := U.calling g mk a) (Vm.Alike.refl U.vm) q.2.2⟩, va_recv hK hPc (ci := 5) (q0 := 0) rfl rfl, fun U hU hW => ⟨rfl, by rw [hU]; exact hPc, va_K.moved hW.alike hK⟩⟩ rfl rfl hl.1 rfl (lv_room (Nat.le_of_ble_eq_true rfl)) dX6_times_10 ⟨Nat.le_of_ble_eq_true rfl, Nat.le_of_ble_eq_true rfl⟩).run (fun r hr10 => ?_)
    obtain rfl := hr10
    refine z_ifb_ne (P := inR R (j)) (tgt := 18) hx hb dX6_times_13 (by decide) (fun c13 => ?_) (fun c13 => ?_)
    · have h2 := RV_at gV c13
      have b1 : F i.toNat * F j.toNat ≤ 32 * 32 := Nat.mul_le_mul h1.2.1 h2.2.1
      refine lv_aload_n hx hb dX6_times_18 rfl (lv_at hl 0 rfl) ?_
      refine va_get (D := D) (ci := 5) (v := .ref (a 0)) (C := RX6) (T := TX6) (N := 7) hx hb hts iX6 hown hK hP 0 rfl rfl 0 (by decide) (hts (.fieldLink RX6 9 "CancelRows" "lengths" "[I") (by decide +kernel)) (fun _ h9 => h9) rfl dX6_times_19 ?_
      refine lv_iload_n hx hb dX6_times_22 rfl (lv_at hl 1 rfl) ?_
      refine z_iald hx hb hK hP 1 0 rfl rfl (i.toNat) (by omega) (by omega) (by omega) dX6_times_23 ?_
      refine z_re (e2 := ((F (i.toNat) : Nat) : Int)) (rfl) ?_
      refine lv_aload_n hx hb dX6_times_24 rfl (lv_at hl 0 rfl) ?_
      refine va_get (D := D) (ci := 5) (v := .ref (a 0)) (C := RX6) (T := TX6) (N := 7) hx hb hts iX6 hown hK hP 0 rfl rfl 0 (by decide) (hts (.fieldLink RX6 9 "CancelRows" "lengths" "[I") (by decide +kernel)) (fun _ h9 => h9) rfl dX6_times_25 ?_
      refine lv_iload_n hx hb dX6_times_28 rfl (lv_at hl 2 rfl) ?_
      refine z_iald hx hb hK hP 1 0 rfl rfl (j.toNat) (by omega) (by omega) (by omega) dX6_times_29 ?_
      refine z_re (e2 := ((F (j.toNat) : Nat) : Int)) (rfl) ?_
      refine z_imul hx hb dX6_times_30 ?_
      refine z_re (e2 := ((F i.toNat * F j.toNat : Nat) : Int)) (by rw [Int.natCast_mul]) ?_
      refine lv_istore_n (lv' := [(3, .int (zI (((F i.toNat * F j.toNat : Nat) : Int)))), (0, .ref x), (1, .int (zI (i))), (2, .int (zI (j)))]) hx hb dX6_times_31 rfl hl (by decide) rfl (fun ls hl => ?_)
      refine lv_aload_n hx hb dX6_times_32 rfl (lv_at hl 1 rfl) ?_
      refine lv_iload_n hx hb dX6_times_33 rfl (lv_at hl 0 rfl) ?_
      refine lv_iconst (v := zI 1) hx hb dX6_times_34 rfl ?_
      have hPc := hP.sub (ws' := [oX x a (((R : Nat) : Int))]) [0] rfl
      refine vp_callSi (va_runV (As := [.int (zI (((F i.toNat * F j.toNat : Nat) : Int))), .int (zI (1))]) (rest := []) ⟨hx, hb, hml, hown, hts⟩ (c_X6_fits l D t x a R gV.1 ((F i.toNat * F j.toNat : Nat) : Int) 1 (by omega) (by omega)) (cwV 2 hts gX6_times_X6_fits rfl rfl rfl (by decide +kernel) ⟨Nat.le_of_ble_eq_true rfl, Nat.le_of_ble_eq_true rfl⟩) ⟨fun a U g mk q => ⟨q.1, q.2.1, va_K.moved (u := U) (U := U.calling g mk a) (Vm.Alike.refl U.vm) q.2.2⟩, va_recv hK hPc (ci := 5) (q0 := 0) rfl rfl, fun U hU hW => ⟨rfl, by rw [hU]; exact hPc, va_K.moved hW.alike hK⟩⟩ rfl rfl hl.1 rfl (lv_room (Nat.le_of_ble_eq_true rfl)) dX6_times_35 ⟨Nat.le_of_ble_eq_true rfl, Nat.le_of_ble_eq_true rfl⟩).run (fun r hr35 => ?_)
      obtain rfl := hr35
      refine z_ifb_eq (P := (((F i.toNat * F j.toNat : Nat) : Int)) ≤ 32 ∧ (R : Int) + (1) ≤ 24) (tgt := 76) hx hb dX6_times_38 (by decide) (fun c38 => ?_) (fun c38 => ?_)
      · refine lv_bipush (v := zI (-3)) hx hb dX6_times_76 (by decide +kernel) ?_
        have hP := hP.sub (ws' := [oX x a (((R : Nat) : Int)), aI t (a 0) 24 (cN (F)), aJ t (a 1) 24 (G)]) [0, 1, 2] rfl
        have hD := hD.sub (ws' := [oX x a (((R : Nat) : Int)), aI t (a 0) 24 (cN (F)), aJ t (a 1) 24 (G)]) [0, 1, 2] (by decide) rfl
        exact W.iret (v := (zI ((-3)))) hx hb hr (fun tq ht hW => ⟨⟨_, (R, F, G), rfl, by rw [sp_times, if_pos ⟨c5, c13⟩, sp_add_n (by omega)]; exact ⟨rfl, rfl⟩, by rw [ht]; exact hP, va_K.moved hW.alike hK, hD⟩, hS.F ht⟩) hS.2.2 dX6_times_78
      · refine lv_aload_n hx hb dX6_times_41 rfl (lv_at hl 1 rfl) ?_
        refine lv_iload_n hx hb dX6_times_42 rfl (lv_at hl 0 rfl) ?_
        refine lv_aload_n hx hb dX6_times_43 rfl (lv_at hl 1 rfl) ?_
        refine va_get (D := D) (ci := 5) (v := .ref (a 1)) (C := RX6) (T := TX6) (N := 7) hx hb hts iX6 hown hK hP 0 rfl rfl 1 (by decide) (hts (.fieldLink RX6 13 "CancelRows" "numbers" "[J") (by decide +kernel)) (fun _ h9 => h9) rfl dX6_times_44 ?_
        refine lv_iload_n hx hb dX6_times_47 rfl (lv_at hl 2 rfl) ?_
        refine l_lald hx hb hK hP 2 1 rfl rfl (i.toNat) (by omega) (by omega) (by omega) dX6_times_48 ?_
        refine lv_aload_n hx hb dX6_times_49 rfl (lv_at hl 1 rfl) ?_
        refine va_get (D := D) (ci := 5) (v := .ref (a 0)) (C := RX6) (T := TX6) (N := 7) hx hb hts iX6 hown hK hP 0 rfl rfl 0 (by decide) (hts (.fieldLink RX6 9 "CancelRows" "lengths" "[I") (by decide +kernel)) (fun _ h9 => h9) rfl dX6_times_50 ?_
        refine lv_iload_n hx hb dX6_times_53 rfl (lv_at hl 2 rfl) ?_
        refine z_iald hx hb hK hP 1 0 rfl rfl (i.toNat) (by omega) (by omega) (by omega) dX6_times_54 ?_
        refine z_re (e2 := ((F (i.toNat) : Nat) : Int)) (rfl) ?_
        refine lv_aload_n hx hb dX6_times_55 rfl (lv_at hl 1 rfl) ?_
        refine va_get (D := D) (ci := 5) (v := .ref (a 1)) (C := RX6) (T := TX6) (N := 7) hx hb hts iX6 hown hK hP 0 rfl rfl 1 (by decide) (hts (.fieldLink RX6 13 "CancelRows" "numbers" "[J") (by decide +kernel)) (fun _ h9 => h9) rfl dX6_times_56 ?_
        refine lv_iload_n hx hb dX6_times_59 rfl (lv_at hl 3 rfl) ?_
        refine l_lald hx hb hK hP 2 1 rfl rfl (j.toNat) (by omega) (by omega) (by omega) dX6_times_60 ?_
        refine lv_aload_n hx hb dX6_times_61 rfl (lv_at hl 1 rfl) ?_
        refine va_get (D := D) (ci := 5) (v := .ref (a 0)) (C := RX6) (T := TX6) (N := 7) hx hb hts iX6 hown hK hP 0 rfl rfl 0 (by decide) (hts (.fieldLink RX6 9 "CancelRows" "lengths" "[I") (by decide +kernel)) (fun _ h9 => h9) rfl dX6_times_62 ?_
        refine lv_iload_n hx hb dX6_times_65 rfl (lv_at hl 3 rfl) ?_
        refine z_iald hx hb hK hP 1 0 rfl rfl (j.toNat) (by omega) (by omega) (by omega) dX6_times_66 ?_
        refine z_re (e2 := ((F (j.toNat) : Nat) : Int)) (rfl) ?_
        refine vp_callSl (va_runS (As := [.long (lN ((G) (i.toNat))), .int (zI (((F (i.toNat) : Nat) : Int))), .long (lN ((G) (j.toNat))), .int (zI (((F (j.toNat) : Nat) : Int)))]) (rest := [.int (zI (((F i.toNat * F j.toNat : Nat) : Int))), .ref x]) ⟨hx, hb, hml, hown, hts⟩ (c_X3_product l (G i.toNat) (F i.toNat) (G j.toNat) (F j.toNat) (by omega) h2.1 (lt32 h1.2.2 h1.2.1) h2.2.2 h1.2.1 h2.2.1) (va_cwS 4 hts gX6_times_X3_product rfl rfl rfl (by decide +kernel) ⟨Nat.le_of_ble_eq_true rfl, Nat.le_of_ble_eq_true rfl⟩) ⟨fun a U g mk q => q, fun U hU hW => ⟨rfl, trivial⟩⟩ rfl rfl hl.1 rfl (lv_room (Nat.le_of_ble_eq_true rfl)) dX6_times_67 ⟨Nat.le_of_ble_eq_true rfl, Nat.le_of_ble_eq_true rfl⟩).run (fun r hr67 => ?_)
        obtain rfl := hr67
        have hPc := hP.sub (ws' := [oX x a (((R : Nat) : Int)), aI t (a 0) 24 (cN F), aJ t (a 1) 24 (G)]) [0, 1, 2] rfl
        have hDc := hD.sub (ws' := [oX x a (((R : Nat) : Int)), aI t (a 0) 24 (cN F), aJ t (a 1) 24 (G)]) [0, 1, 2] (by decide) rfl
        have hFc := va_free (wc := [oX x a (((R : Nat) : Int)), aI t (a 0) 24 (cN F), aJ t (a 1) 24 (G)]) hD hS hA [0, 1, 2] rfl
        refine va_calli (va_runV (As := [.int (zI (((F i.toNat * F j.toNat : Nat) : Int))), .long (lN (pd ((G) (i.toNat)) ((G) (j.toNat)) (F (j.toNat)) ((F (i.toNat)) * (F (j.toNat)))))]) (rest := []) ⟨hx, hb, hml, hown, hts⟩ (c_X6_added l D t s.heap.size x a (R) (F) (G) (by omega) (F i.toNat * F j.toNat) (pd (G i.toNat) (G j.toNat) (F j.toNat) (F i.toNat * F j.toNat)) (by omega)) (cwV 2 hts gX6_times_X6_added rfl rfl rfl (by decide +kernel) ⟨Nat.le_of_ble_eq_true rfl, Nat.le_of_ble_eq_true rfl⟩) ⟨fun a U g mk q => by obtain ⟨q0, q1, qP, qK, qD⟩ := q; exact ⟨q0, q1, qP, va_K.moved (u := U) (U := U.calling g mk a) (Vm.Alike.refl U.vm) qK, qD⟩, va_recv hK hPc (ci := 5) (q0 := 0) rfl rfl, fun U hU hW => ⟨rfl, by rw [hU], by rw [hU]; exact hPc, va_K.moved hW.alike hK, hDc.weaken (fun _ _ _ _ => trivial)⟩⟩ rfl rfl hl.1 rfl (lv_room (Nat.le_of_ble_eq_true rfl)) dX6_times_70 ⟨Nat.le_of_ble_eq_true rfl, Nat.le_of_ble_eq_true rfl⟩) hS (fun q _ h => hFc q h) hFc (fun r u tq H1 locs ht hvm hr70 hB hz1 hk1 hS => ?_)
        obtain ⟨R2, F2, G2⟩ := u
        obtain ⟨hP1, hK1, hD1⟩ := hB
        rw [ht] at hP1
        obtain ⟨hP, hD⟩ := va_join (wr := []) (w1 := [oX x a (((R2 : Nat) : Int)), aI t (a 0) 24 (cN (F2)), aJ t (a 1) 24 (G2)]) hP hD [0, 1, 2] [] rfl rfl (by decide) (by decide) hk1 hFc hP1 hD1
        generalize H1 = H at hP hS ⊢
        have hP : va_P D vwCl [oX x a (((R2 : Nat) : Int)), aI t (a 0) 24 (cN (F2)), aJ t (a 1) 24 (G2)] H := hP
        have hD : va_D AA [oX x a (((R2 : Nat) : Int)), aI t (a 0) 24 (cN (F2)), aJ t (a 1) 24 (G2)] := hD
        obtain ⟨rfl, hu⟩ := hr70
        obtain ⟨rfl, rfl, rfl⟩ : R2 = R + 1 ∧ F2 = va_up (F) (R) (F i.toNat * F j.toNat) ∧ G2 = va_up (G) (R) (pd (G i.toNat) (G j.toNat) (F j.toNat) (F i.toNat * F j.toNat)) := ⟨congrArg (·.1) hu, congrArg (·.2.1) hu, congrArg (·.2.2) hu⟩
        refine lv_goto (tgt := 78) hx hb dX6_times_73 (by decide) ?_
        have hP := hP.sub (ws' := [oX x a (((R + 1 : Nat) : Int)), aI t (a 0) 24 (cN (va_up F R (F i.toNat * F j.toNat))), aJ t (a 1) 24 (va_up G R (pd (G i.toNat) (G j.toNat) (F j.toNat) (F i.toNat * F j.toNat)))]) [0, 1, 2] rfl
        have hD := hD.sub (ws' := [oX x a (((R + 1 : Nat) : Int)), aI t (a 0) 24 (cN (va_up F R (F i.toNat * F j.toNat))), aJ t (a 1) 24 (va_up G R (pd (G i.toNat) (G j.toNat) (F j.toNat) (F i.toNat * F j.toNat)))]) [0, 1, 2] (by decide) rfl
        exact W.iret (v := (zI (((R : Nat) : Int)))) hx hb hr (fun tq ht hW => ⟨⟨_, (R + 1, va_up F R (F i.toNat * F j.toNat), va_up G R (pd (G i.toNat) (G j.toNat) (F j.toNat) (F i.toNat * F j.toNat))), rfl, by rw [sp_times, if_pos ⟨c5, c13⟩, sp_add_y (by omega)]; exact ⟨rfl, rfl⟩, by rw [ht]; exact hP, va_K.moved hW.alike hK, hD⟩, hS.F ht⟩) hS.2.2 dX6_times_78
    · refine lv_iconst (v := zI (-1)) hx hb dX6_times_16 rfl ?_
      have hP := hP.sub (ws' := [oX x a (((R : Nat) : Int)), aI t (a 0) 24 (cN (F)), aJ t (a 1) 24 (G)]) [0, 1, 2] rfl
      have hD := hD.sub (ws' := [oX x a (((R : Nat) : Int)), aI t (a 0) 24 (cN (F)), aJ t (a 1) 24 (G)]) [0, 1, 2] (by decide) rfl
      exact W.iret (v := (zI ((-1)))) hx hb hr (fun tq ht hW => ⟨⟨_, (R, F, G), rfl, by rw [sp_times, if_neg (fun z => c13 z.2)]; exact ⟨rfl, rfl⟩, by rw [ht]; exact hP, va_K.moved hW.alike hK, hD⟩, hS.F ht⟩) hS.2.2 dX6_times_17

-- doubled
set_option maxHeartbeats 4000000 in
set_option maxRecDepth 100000 in
theorem c_X6_doubled (l : Launch) (D : va_G) (t : Nat → ClassId) (sz : Nat) (x : Nat) (a : Nat → Nat) (R : Nat) (F G : Nat → Nat) (gV : RV R F G) (i j : Int) (gi : -2147483648 ≤ i ∧ i < 2147483648) (gj : -2147483648 ≤ j ∧ j < 2147483648) : Met l yX6_doubled wsX6_doubled ({ frames := 3, cells := 0, slots := 0, locals := 65 }) (va_Pc [.ref x, .int (zI (i)), .int (zI (j))] (fun U => U.heap.size = sz ∧ va_P D vwCl ([oX x a (((R : Nat) : Int)), aI t (a 0) 24 (cN F), aJ t (a 1) 24 (G)]) U.heap ∧ va_K D vwCl (TY t) U ∧ va_D (fun _ => True) ([oX x a (((R : Nat) : Int)), aI t (a 0) 24 (cN F), aJ t (a 1) 24 (G)]))) (va_Qi (fun r (u : RT) => r = zI (sp_doubled R F G i j).1 ∧ u = (sp_doubled R F G i j).2) (fun (u : RT) t1 => va_P D vwCl ([oX x a (((u.1 : Nat) : Int)), aI t (a 0) 24 (cN (u.2.1)), aJ t (a 1) 24 (u.2.2)]) t1.heap ∧ va_K D vwCl (TY t) t1 ∧ va_D (va_A ([oX x a (((R : Nat) : Int)), aI t (a 0) 24 (cN F), aJ t (a 1) 24 (G)]) sz) ([oX x a (((u.1 : Nat) : Int)), aI t (a 0) 24 (cN (u.2.1)), aJ t (a 1) 24 (u.2.2)])) (va_A ([oX x a (((R : Nat) : Int)), aI t (a 0) 24 (cN F), aJ t (a 1) 24 (G)]) sz)) 0 0 (va_A ([oX x a (((R : Nat) : Int)), aI t (a 0) 24 (cN F), aJ t (a 1) 24 (G)]) sz) := by
  refine Met.ofW (cc := cX6_doubled) (maxL := 5) (ret := (some .int)) (by decide) rfl ?_
  intro p e s m args below meth c s₁ B hml hv
  obtain ⟨rfl, hsz, hP, hK, hD0⟩ := hv
  have hx := B.exec
  have hb := B.bytes
  have hr := B.returns
  have hts := atoms_spec (ws := wsX6_doubled) B.pre
  have hown : s.vm.findClass RX6 = some m.cls := findClass_of_methodNamed B.named
  have hlocks := B.notSynchronized
  subst hsz
  have hD := hD0.self (sz := s.heap.size)
  generalize hAe : va_A ([oX x a (((R : Nat) : Int)), aI t (a 0) 24 (cN F), aJ t (a 1) 24 (G)]) s.heap.size = AA at hD ⊢
  have hA : ∀ q : Nat, s.heap.size ≤ q → AA q := fun q h => by rw [← hAe]; exact Or.inr h
  have hS : va_S AA s.heap s.heap [] := va_S.rf
  have hP : va_P D vwCl ([oX x a (((R : Nat) : Int)), aI t (a 0) 24 (cN F), aJ t (a 1) 24 (G)]) s.heap := hP
  have hl := lv_entry ([.ref x, .int (zI (i)), .int (zI (j))]) (n := 5) (Nat.le_of_ble_eq_true rfl)
  rw [lg_entry_eq]
  generalize (lg_sl ([.ref x, .int (zI (i)), .int (zI (j))]) ++ List.replicate (5 - (lg_sl ([.ref x, .int (zI (i)), .int (zI (j))])).length) Slot.unset).toArray = ls at hl ⊢
  have hl : lv_has ls 5 [(0, .ref x), (1, .int (zI (i))), (2, .int (zI (j)))] := hl
  have iX6 : ∀ w ∈ u_ws RX6 TX6 7, w ∈ wsX6_doubled := by decide +kernel
  have gR := gV.1
  refine lv_aload_n hx hb dX6_doubled_0 rfl (lv_at hl 0 rfl) ?_
  refine lv_iload_n hx hb dX6_doubled_1 rfl (lv_at hl 1 rfl) ?_
  refine lv_iload_n hx hb dX6_doubled_2 rfl (lv_at hl 2 rfl) ?_
  have hPc := hP.sub (ws' := [oX x a (((R : Nat) : Int)), aI t (a 0) 24 (cN F)]) [0, 1] rfl
  refine vp_callSi (va_runV (As := [.int (zI (i)), .int (zI (j))]) (rest := []) ⟨hx, hb, hml, hown, hts⟩ (c_X6_areAlikeLong l D t x a R F G gV i j gi gj) (cwV 2 hts gX6_doubled_X6_areAlikeLong rfl rfl rfl (by decide +kernel) ⟨Nat.le_of_ble_eq_true rfl, Nat.le_of_ble_eq_true rfl⟩) ⟨fun a U g mk q => ⟨q.1, q.2.1, va_K.moved (u := U) (U := U.calling g mk a) (Vm.Alike.refl U.vm) q.2.2⟩, va_recv hK hPc (ci := 5) (q0 := 0) rfl rfl, fun U hU hW => ⟨rfl, by rw [hU]; exact hPc, va_K.moved hW.alike hK⟩⟩ rfl rfl hl.1 rfl (lv_room (Nat.le_of_ble_eq_true rfl)) dX6_doubled_3 ⟨Nat.le_of_ble_eq_true rfl, Nat.le_of_ble_eq_true rfl⟩).run (fun r hr3 => ?_)
  obtain rfl := hr3
  refine z_ifb_ne (P := inR R (i) ∧ inR R (j) ∧ F (i).toNat = F (j).toNat) (tgt := 11) hx hb dX6_doubled_6 (by decide) (fun c6 => ?_) (fun c6 => ?_)
  · have h1 := RV_at gV c6.1
    have h2 := RV_at gV c6.2.1
    refine lv_aload_n hx hb dX6_doubled_11 rfl (lv_at hl 0 rfl) ?_
    refine va_get (D := D) (ci := 5) (v := .ref (a 0)) (C := RX6) (T := TX6) (N := 7) hx hb hts iX6 hown hK hP 0 rfl rfl 0 (by decide) (hts (.fieldLink RX6 9 "CancelRows" "lengths" "[I") (by decide +kernel)) (fun _ h9 => h9) rfl dX6_doubled_12 ?_
    refine lv_iload_n hx hb dX6_doubled_15 rfl (lv_at hl 1 rfl) ?_
    refine z_iald hx hb hK hP 1 0 rfl rfl (i.toNat) (by omega) (by omega) (by omega) dX6_doubled_16 ?_
    refine z_re (e2 := ((F (i.toNat) : Nat) : Int)) (rfl) ?_
    refine lv_istore_n (lv' := [(3, .int (zI (((F (i.toNat) : Nat) : Int)))), (0, .ref x), (1, .int (zI (i))), (2, .int (zI (j)))]) hx hb dX6_doubled_17 rfl hl (by decide) rfl (fun ls hl => ?_)
    refine lv_aload_n hx hb dX6_doubled_18 rfl (lv_at hl 1 rfl) ?_
    refine lv_iconst (v := zI 2) hx hb dX6_doubled_19 rfl ?_
    refine lv_iload_n hx hb dX6_doubled_20 rfl (lv_at hl 0 rfl) ?_
    refine z_imul hx hb dX6_doubled_21 ?_
    refine z_re (e2 := ((2 * F i.toNat : Nat) : Int)) (by omega) ?_
    refine lv_iconst (v := zI 2) hx hb dX6_doubled_22 rfl ?_
    have hPc := hP.sub (ws' := [oX x a (((R : Nat) : Int))]) [0] rfl
    refine vp_callSi (va_runV (As := [.int (zI (((2 * F i.toNat : Nat) : Int))), .int (zI (2))]) (rest := []) ⟨hx, hb, hml, hown, hts⟩ (c_X6_fits l D t x a R gV.1 ((2 * F i.toNat : Nat) : Int) 2 (by omega) (by omega)) (cwV 2 hts gX6_doubled_X6_fits rfl rfl rfl (by decide +kernel) ⟨Nat.le_of_ble_eq_true rfl, Nat.le_of_ble_eq_true rfl⟩) ⟨fun a U g mk q => ⟨q.1, q.2.1, va_K.moved (u := U) (U := U.calling g mk a) (Vm.Alike.refl U.vm) q.2.2⟩, va_recv hK hPc (ci := 5) (q0 := 0) rfl rfl, fun U hU hW => ⟨rfl, by rw [hU]; exact hPc, va_K.moved hW.alike hK⟩⟩ rfl rfl hl.1 rfl (lv_room (Nat.le_of_ble_eq_true rfl)) dX6_doubled_23 ⟨Nat.le_of_ble_eq_true rfl, Nat.le_of_ble_eq_true rfl⟩).run (fun r hr23 => ?_)
    obtain rfl := hr23
    refine z_ifb_ne (P := (((2 * F i.toNat : Nat) : Int)) ≤ 32 ∧ (R : Int) + (2) ≤ 24) (tgt := 32) hx hb dX6_doubled_26 (by decide) (fun c26 => ?_) (fun c26 => ?_)
    · refine lv_aload_n hx hb dX6_doubled_32 rfl (lv_at hl 1 rfl) ?_
      refine lv_iconst (v := zI 2) hx hb dX6_doubled_33 rfl ?_
      refine lv_iload_n hx hb dX6_doubled_34 rfl (lv_at hl 0 rfl) ?_
      refine z_imul hx hb dX6_doubled_35 ?_
      refine z_re (e2 := ((2 * F i.toNat : Nat) : Int)) (by omega) ?_
      refine lv_aload_n hx hb dX6_doubled_36 rfl (lv_at hl 1 rfl) ?_
      refine va_get (D := D) (ci := 5) (v := .ref (a 1)) (C := RX6) (T := TX6) (N := 7) hx hb hts iX6 hown hK hP 0 rfl rfl 1 (by decide) (hts (.fieldLink RX6 13 "CancelRows" "numbers" "[J") (by decide +kernel)) (fun _ h9 => h9) rfl dX6_doubled_37 ?_
      refine lv_iload_n hx hb dX6_doubled_40 rfl (lv_at hl 2 rfl) ?_
      refine l_lald hx hb hK hP 2 1 rfl rfl (i.toNat) (by omega) (by omega) (by omega) dX6_doubled_41 ?_
      refine lv_iload_n hx hb dX6_doubled_42 rfl (lv_at hl 0 rfl) ?_
      refine lv_aload_n hx hb dX6_doubled_43 rfl (lv_at hl 1 rfl) ?_
      refine va_get (D := D) (ci := 5) (v := .ref (a 1)) (C := RX6) (T := TX6) (N := 7) hx hb hts iX6 hown hK hP 0 rfl rfl 1 (by decide) (hts (.fieldLink RX6 13 "CancelRows" "numbers" "[J") (by decide +kernel)) (fun _ h9 => h9) rfl dX6_doubled_44 ?_
      refine lv_iload_n hx hb dX6_doubled_47 rfl (lv_at hl 3 rfl) ?_
      refine l_lald hx hb hK hP 2 1 rfl rfl (j.toNat) (by omega) (by omega) (by omega) dX6_doubled_48 ?_
      refine vp_callSl (va_runS (As := [.long (lN ((G) (i.toNat))), .int (zI (((F (i.toNat) : Nat) : Int))), .long (lN ((G) (j.toNat)))]) (rest := [.int (zI (((2 * F i.toNat : Nat) : Int))), .ref x]) ⟨hx, hb, hml, hown, hts⟩ (c_X3_joined l (G i.toNat) (F i.toNat) (G j.toNat) (by omega)) (va_cwS 3 hts gX6_doubled_X3_joined rfl rfl rfl (by decide +kernel) ⟨Nat.le_of_ble_eq_true rfl, Nat.le_of_ble_eq_true rfl⟩) ⟨fun a U g mk q => q, fun U hU hW => ⟨rfl, trivial⟩⟩ rfl rfl hl.1 rfl (lv_room (Nat.le_of_ble_eq_true rfl)) dX6_doubled_49 ⟨Nat.le_of_ble_eq_true rfl, Nat.le_of_ble_eq_true rfl⟩).run (fun r hr49 => ?_)
      obtain rfl := hr49
      have hPc := hP.sub (ws' := [oX x a (((R : Nat) : Int)), aI t (a 0) 24 (cN F), aJ t (a 1) 24 (G)]) [0, 1, 2] rfl
      have hDc := hD.sub (ws' := [oX x a (((R : Nat) : Int)), aI t (a 0) 24 (cN F), aJ t (a 1) 24 (G)]) [0, 1, 2] (by decide) rfl
      have hFc := va_free (wc := [oX x a (((R : Nat) : Int)), aI t (a 0) 24 (cN F), aJ t (a 1) 24 (G)]) hD hS hA [0, 1, 2] rfl
      refine va_calli (va_runV (As := [.int (zI (((2 * F i.toNat : Nat) : Int))), .long (lN (jn ((G) (i.toNat)) (F (i.toNat)) ((G) (j.toNat))))]) (rest := []) ⟨hx, hb, hml, hown, hts⟩ (c_X6_added l D t s.heap.size x a (R) (F) (G) (by omega) (2 * F i.toNat) (jn (G i.toNat) (F i.toNat) (G j.toNat)) (by omega)) (cwV 2 hts gX6_doubled_X6_added rfl rfl rfl (by decide +kernel) ⟨Nat.le_of_ble_eq_true rfl, Nat.le_of_ble_eq_true rfl⟩) ⟨fun a U g mk q => by obtain ⟨q0, q1, qP, qK, qD⟩ := q; exact ⟨q0, q1, qP, va_K.moved (u := U) (U := U.calling g mk a) (Vm.Alike.refl U.vm) qK, qD⟩, va_recv hK hPc (ci := 5) (q0 := 0) rfl rfl, fun U hU hW => ⟨rfl, by rw [hU], by rw [hU]; exact hPc, va_K.moved hW.alike hK, hDc.weaken (fun _ _ _ _ => trivial)⟩⟩ rfl rfl hl.1 rfl (lv_room (Nat.le_of_ble_eq_true rfl)) dX6_doubled_52 ⟨Nat.le_of_ble_eq_true rfl, Nat.le_of_ble_eq_true rfl⟩) hS (fun q _ h => hFc q h) hFc (fun r u tq H1 locs ht hvm hr52 hB hz1 hk1 hS => ?_)
      obtain ⟨R2, F2, G2⟩ := u
      obtain ⟨hP1, hK1, hD1⟩ := hB
      rw [ht] at hP1
      obtain ⟨hP, hD⟩ := va_join (wr := []) (w1 := [oX x a (((R2 : Nat) : Int)), aI t (a 0) 24 (cN (F2)), aJ t (a 1) 24 (G2)]) hP hD [0, 1, 2] [] rfl rfl (by decide) (by decide) hk1 hFc hP1 hD1
      generalize H1 = H at hP hS ⊢
      have hP : va_P D vwCl [oX x a (((R2 : Nat) : Int)), aI t (a 0) 24 (cN (F2)), aJ t (a 1) 24 (G2)] H := hP
      have hD : va_D AA [oX x a (((R2 : Nat) : Int)), aI t (a 0) 24 (cN (F2)), aJ t (a 1) 24 (G2)] := hD
      obtain ⟨rfl, hu⟩ := hr52
      obtain ⟨rfl, rfl, rfl⟩ : R2 = R + 1 ∧ F2 = va_up (F) (R) (2 * F i.toNat) ∧ G2 = va_up (G) (R) (jn (G i.toNat) (F i.toNat) (G j.toNat)) := ⟨congrArg (·.1) hu, congrArg (·.2.1) hu, congrArg (·.2.2) hu⟩
      refine lv_istore (lv' := [(4, .int (zI (((R : Nat) : Int)))), (3, .int (zI (((F (i.toNat) : Nat) : Int)))), (0, .ref x), (1, .int (zI (i))), (2, .int (zI (j)))]) hx hb dX6_doubled_55 hl (by decide) rfl (fun ls hl => ?_)
      refine lv_aload_n hx hb dX6_doubled_57 rfl (lv_at hl 2 rfl) ?_
      refine lv_iconst (v := zI 2) hx hb dX6_doubled_58 rfl ?_
      refine lv_iload_n hx hb dX6_doubled_59 rfl (lv_at hl 1 rfl) ?_
      refine z_imul hx hb dX6_doubled_60 ?_
      refine z_re (e2 := ((2 * F i.toNat : Nat) : Int)) (by omega) ?_
      refine lv_aload_n hx hb dX6_doubled_61 rfl (lv_at hl 2 rfl) ?_
      refine va_get (D := D) (ci := 5) (v := .ref (a 1)) (C := RX6) (T := TX6) (N := 7) hx hb hts iX6 hown hK hP 0 rfl rfl 1 (by decide) (hts (.fieldLink RX6 13 "CancelRows" "numbers" "[J") (by decide +kernel)) (fun _ h9 => h9) rfl dX6_doubled_62 ?_
      refine lv_iload_n hx hb dX6_doubled_65 rfl (lv_at hl 3 rfl) ?_
      refine l_lald hx hb hK hP 2 1 rfl rfl (i.toNat) (by omega) (by omega) (by omega) dX6_doubled_66 ?_
      refine n_re (e2 := G i.toNat) (if_neg (by omega)) ?_
      refine lv_iload_n hx hb dX6_doubled_67 rfl (lv_at hl 1 rfl) ?_
      refine lv_aload_n hx hb dX6_doubled_68 rfl (lv_at hl 2 rfl) ?_
      refine va_get (D := D) (ci := 5) (v := .ref (a 1)) (C := RX6) (T := TX6) (N := 7) hx hb hts iX6 hown hK hP 0 rfl rfl 1 (by decide) (hts (.fieldLink RX6 13 "CancelRows" "numbers" "[J") (by decide +kernel)) (fun _ h9 => h9) rfl dX6_doubled_69 ?_
      refine lv_iload_n hx hb dX6_doubled_72 rfl (lv_at hl 4 rfl) ?_
      refine l_lald hx hb hK hP 2 1 rfl rfl (j.toNat) (by omega) (by omega) (by omega) dX6_doubled_73 ?_
      refine n_re (e2 := G j.toNat) (if_neg (by omega)) ?_
      refine lv_iload_n hx hb dX6_doubled_74 rfl (lv_at hl 1 rfl) ?_
      refine vp_callSl (va_runS (As := [.long (lN (G j.toNat)), .int (zI (((F (i.toNat) : Nat) : Int)))]) (rest := [.int (zI (((F (i.toNat) : Nat) : Int))), .long (lN (G i.toNat)), .int (zI (((2 * F i.toNat : Nat) : Int))), .ref x]) ⟨hx, hb, hml, hown, hts⟩ (c_X3_opposite l (G j.toNat) (F i.toNat) h1.2.1) (va_cwS 2 hts gX6_doubled_X3_opposite rfl rfl rfl (by decide +kernel) ⟨Nat.le_of_ble_eq_true rfl, Nat.le_of_ble_eq_true rfl⟩) ⟨fun a U g mk q => q, fun U hU hW => ⟨rfl, trivial⟩⟩ rfl rfl hl.1 rfl (lv_room (Nat.le_of_ble_eq_true rfl)) dX6_doubled_75 ⟨Nat.le_of_ble_eq_true rfl, Nat.le_of_ble_eq_true rfl⟩).run (fun r hr75 => ?_)
      obtain rfl := hr75
      refine vp_callSl (va_runS (As := [.long (lN (G i.toNat)), .int (zI (((F (i.toNat) : Nat) : Int))), .long (lN ((G j.toNat) ^^^ (2 ^ (F (i.toNat)) - 1)))]) (rest := [.int (zI (((2 * F i.toNat : Nat) : Int))), .ref x]) ⟨hx, hb, hml, hown, hts⟩ (c_X3_joined l (G i.toNat) (F i.toNat) (G j.toNat ^^^ (2 ^ F i.toNat - 1)) (by omega)) (va_cwS 3 hts gX6_doubled_X3_joined rfl rfl rfl (by decide +kernel) ⟨Nat.le_of_ble_eq_true rfl, Nat.le_of_ble_eq_true rfl⟩) ⟨fun a U g mk q => q, fun U hU hW => ⟨rfl, trivial⟩⟩ rfl rfl hl.1 rfl (lv_room (Nat.le_of_ble_eq_true rfl)) dX6_doubled_78 ⟨Nat.le_of_ble_eq_true rfl, Nat.le_of_ble_eq_true rfl⟩).run (fun r hr78 => ?_)
      obtain rfl := hr78
      have hPc := hP.sub (ws' := [oX x a ((((R + 1) : Nat) : Int)), aI t (a 0) 24 (cN ((va_up (F) (R) (2 * F i.toNat)))), aJ t (a 1) 24 ((va_up (G) (R) (jn (G i.toNat) (F i.toNat) (G j.toNat))))]) [0, 1, 2] rfl
      have hDc := hD.sub (ws' := [oX x a ((((R + 1) : Nat) : Int)), aI t (a 0) 24 (cN ((va_up (F) (R) (2 * F i.toNat)))), aJ t (a 1) 24 ((va_up (G) (R) (jn (G i.toNat) (F i.toNat) (G j.toNat))))]) [0, 1, 2] (by decide) rfl
      have hFc := va_free (wc := [oX x a ((((R + 1) : Nat) : Int)), aI t (a 0) 24 (cN ((va_up (F) (R) (2 * F i.toNat)))), aJ t (a 1) 24 ((va_up (G) (R) (jn (G i.toNat) (F i.toNat) (G j.toNat))))]) hD hS hA [0, 1, 2] rfl
      refine va_calli (va_runV (As := [.int (zI (((2 * F i.toNat : Nat) : Int))), .long (lN (jn (G i.toNat) (F (i.toNat)) ((G j.toNat) ^^^ (2 ^ (F (i.toNat)) - 1))))]) (rest := []) ⟨hx, hb, hml, hown, hts⟩ (c_X6_added l D t H.size x a (R + 1) (va_up F R (2 * F i.toNat)) (va_up G R (jn (G i.toNat) (F i.toNat) (G j.toNat))) (by omega) (2 * F i.toNat) (jn (G i.toNat) (F i.toNat) (G j.toNat ^^^ (2 ^ F i.toNat - 1))) (by omega)) (cwV 2 hts gX6_doubled_X6_added rfl rfl rfl (by decide +kernel) ⟨Nat.le_of_ble_eq_true rfl, Nat.le_of_ble_eq_true rfl⟩) ⟨fun a U g mk q => by obtain ⟨q0, q1, qP, qK, qD⟩ := q; exact ⟨q0, q1, qP, va_K.moved (u := U) (U := U.calling g mk a) (Vm.Alike.refl U.vm) qK, qD⟩, va_recv hK hPc (ci := 5) (q0 := 0) rfl rfl, fun U hU hW => ⟨rfl, by rw [hU], by rw [hU]; exact hPc, va_K.moved hW.alike hK, hDc.weaken (fun _ _ _ _ => trivial)⟩⟩ rfl rfl hl.1 rfl (lv_room (Nat.le_of_ble_eq_true rfl)) dX6_doubled_81 ⟨Nat.le_of_ble_eq_true rfl, Nat.le_of_ble_eq_true rfl⟩) hS (fun q _ h => hFc q h) hFc (fun r u tq H1 locs ht hvm hr81 hB hz1 hk1 hS => ?_)
      obtain ⟨R2b, F2b, G2b⟩ := u
      obtain ⟨hP1, hK1, hD1⟩ := hB
      rw [ht] at hP1
      obtain ⟨hP, hD⟩ := va_join (wr := []) (w1 := [oX x a (((R2b : Nat) : Int)), aI t (a 0) 24 (cN (F2b)), aJ t (a 1) 24 (G2b)]) hP hD [0, 1, 2] [] rfl rfl (by decide) (by decide) hk1 hFc hP1 hD1
      generalize H1 = H at hP hS ⊢
      have hP : va_P D vwCl [oX x a (((R2b : Nat) : Int)), aI t (a 0) 24 (cN (F2b)), aJ t (a 1) 24 (G2b)] H := hP
      have hD : va_D AA [oX x a (((R2b : Nat) : Int)), aI t (a 0) 24 (cN (F2b)), aJ t (a 1) 24 (G2b)] := hD
      obtain ⟨rfl, hu⟩ := hr81
      obtain ⟨rfl, rfl, rfl⟩ : R2b = R + 1 + 1 ∧ F2b = va_up (va_up F R (2 * F i.toNat)) (R + 1) (2 * F i.toNat) ∧ G2b = va_up (va_up G R (jn (G i.toNat) (F i.toNat) (G j.toNat))) (R + 1) (jn (G i.toNat) (F i.toNat) (G j.toNat ^^^ (2 ^ F i.toNat - 1))) := ⟨congrArg (·.1) hu, congrArg (·.2.1) hu, congrArg (·.2.2) hu⟩
      refine lv_pop hx hb dX6_doubled_84 rfl ?_
      refine lv_iload hx hb dX6_doubled_85 (lv_at hl 0 rfl) ?_
      have hP := hP.sub (ws' := [oX x a (((R + 1 + 1 : Nat) : Int)), aI t (a 0) 24 (cN (va_up (va_up F R (2 * F i.toNat)) (R + 1) (2 * F i.toNat))), aJ t (a 1) 24 (va_up (va_up G R (jn (G i.toNat) (F i.toNat) (G j.toNat))) (R + 1) (jn (G i.toNat) (F i.toNat) (G j.toNat ^^^ (2 ^ F i.toNat - 1))))]) [0, 1, 2] rfl
      have hD := hD.sub (ws' := [oX x a (((R + 1 + 1 : Nat) : Int)), aI t (a 0) 24 (cN (va_up (va_up F R (2 * F i.toNat)) (R + 1) (2 * F i.toNat))), aJ t (a 1) 24 (va_up (va_up G R (jn (G i.toNat) (F i.toNat) (G j.toNat))) (R + 1) (jn (G i.toNat) (F i.toNat) (G j.toNat ^^^ (2 ^ F i.toNat - 1))))]) [0, 1, 2] (by decide) rfl
      exact W.iret (v := (zI (((R : Nat) : Int)))) hx hb hr (fun tq ht hW => ⟨⟨_, (R + 1 + 1, va_up (va_up F R (2 * F i.toNat)) (R + 1) (2 * F i.toNat), va_up (va_up G R (jn (G i.toNat) (F i.toNat) (G j.toNat))) (R + 1) (jn (G i.toNat) (F i.toNat) (G j.toNat ^^^ (2 ^ F i.toNat - 1)))), rfl, by rw [sp_doubled, if_pos c6, sp_add2_y (by omega)]; exact ⟨rfl, rfl⟩, by rw [ht]; exact hP, va_K.moved hW.alike hK, hD⟩, hS.F ht⟩) hS.2.2 dX6_doubled_87
    · refine lv_bipush (v := zI (-3)) hx hb dX6_doubled_29 (by decide +kernel) ?_
      have hP := hP.sub (ws' := [oX x a (((R : Nat) : Int)), aI t (a 0) 24 (cN (F)), aJ t (a 1) 24 (G)]) [0, 1, 2] rfl
      have hD := hD.sub (ws' := [oX x a (((R : Nat) : Int)), aI t (a 0) 24 (cN (F)), aJ t (a 1) 24 (G)]) [0, 1, 2] (by decide) rfl
      exact W.iret (v := (zI ((-3)))) hx hb hr (fun tq ht hW => ⟨⟨_, (R, F, G), rfl, by rw [sp_doubled, if_pos c6, sp_add2_n (by omega)]; exact ⟨rfl, rfl⟩, by rw [ht]; exact hP, va_K.moved hW.alike hK, hD⟩, hS.F ht⟩) hS.2.2 dX6_doubled_31
  · refine lv_iconst (v := zI (-1)) hx hb dX6_doubled_9 rfl ?_
    have hP := hP.sub (ws' := [oX x a (((R : Nat) : Int)), aI t (a 0) 24 (cN (F)), aJ t (a 1) 24 (G)]) [0, 1, 2] rfl
    have hD := hD.sub (ws' := [oX x a (((R : Nat) : Int)), aI t (a 0) 24 (cN (F)), aJ t (a 1) 24 (G)]) [0, 1, 2] (by decide) rfl
    exact W.iret (v := (zI ((-1)))) hx hb hr (fun tq ht hW => ⟨⟨_, (R, F, G), rfl, by rw [sp_doubled, if_neg (c6)]; exact ⟨rfl, rfl⟩, by rw [ht]; exact hP, va_K.moved hW.alike hK, hD⟩, hS.F ht⟩) hS.2.2 dX6_doubled_10

-- told
set_option maxHeartbeats 4000000 in
set_option maxRecDepth 100000 in
theorem c_X6_told (l : Launch) (D : va_G) (t : Nat → ClassId) (sz : Nat) (x : Nat) (a : Nat → Nat) (R : Nat) (F G : Nat → Nat) (gV : RV R F G) (n : Int) (gn : -2147483648 ≤ n ∧ n < 2147483648) : Met l yX6_told wsX6_told ({ frames := 2, cells := 0, slots := 0, locals := 42 }) (va_Pc [.ref x, .int (zI (n))] (fun U => U.heap.size = sz ∧ va_P D vwCl ([oX x a (((R : Nat) : Int)), aI t (a 0) 24 (cN F), aJ t (a 1) 24 (G)]) U.heap ∧ va_K D vwCl (TY t) U ∧ va_D (fun _ => True) ([oX x a (((R : Nat) : Int)), aI t (a 0) 24 (cN F), aJ t (a 1) 24 (G)]))) (va_Qi (fun r (u : RT) => r = zI (sp_told R F G n).1 ∧ u = (sp_told R F G n).2) (fun (u : RT) t1 => va_P D vwCl ([oX x a (((u.1 : Nat) : Int)), aI t (a 0) 24 (cN (u.2.1)), aJ t (a 1) 24 (u.2.2)]) t1.heap ∧ va_K D vwCl (TY t) t1 ∧ va_D (va_A ([oX x a (((R : Nat) : Int)), aI t (a 0) 24 (cN F), aJ t (a 1) 24 (G)]) sz) ([oX x a (((u.1 : Nat) : Int)), aI t (a 0) 24 (cN (u.2.1)), aJ t (a 1) 24 (u.2.2)])) (va_A ([oX x a (((R : Nat) : Int)), aI t (a 0) 24 (cN F), aJ t (a 1) 24 (G)]) sz)) 0 0 (va_A ([oX x a (((R : Nat) : Int)), aI t (a 0) 24 (cN F), aJ t (a 1) 24 (G)]) sz) := by
  refine Met.ofW (cc := cX6_told) (maxL := 10) (ret := (some .int)) (by decide) rfl ?_
  intro p e s m args below meth c s₁ B hml hv
  obtain ⟨rfl, hsz, hP, hK, hD0⟩ := hv
  have hx := B.exec
  have hb := B.bytes
  have hr := B.returns
  have hts := atoms_spec (ws := wsX6_told) B.pre
  have hown : s.vm.findClass RX6 = some m.cls := findClass_of_methodNamed B.named
  have hlocks := B.notSynchronized
  subst hsz
  have hD := hD0.self (sz := s.heap.size)
  generalize hAe : va_A ([oX x a (((R : Nat) : Int)), aI t (a 0) 24 (cN F), aJ t (a 1) 24 (G)]) s.heap.size = AA at hD ⊢
  have hA : ∀ q : Nat, s.heap.size ≤ q → AA q := fun q h => by rw [← hAe]; exact Or.inr h
  have hS : va_S AA s.heap s.heap [] := va_S.rf
  have hP : va_P D vwCl ([oX x a (((R : Nat) : Int)), aI t (a 0) 24 (cN F), aJ t (a 1) 24 (G)]) s.heap := hP
  have hl := lv_entry ([.ref x, .int (zI (n))]) (n := 10) (Nat.le_of_ble_eq_true rfl)
  rw [lg_entry_eq]
  generalize (lg_sl ([.ref x, .int (zI (n))]) ++ List.replicate (10 - (lg_sl ([.ref x, .int (zI (n))])).length) Slot.unset).toArray = ls at hl ⊢
  have hl : lv_has ls 10 [(0, .ref x), (1, .int (zI (n)))] := hl
  have gR := gV.1
  refine lv_iload_n hx hb dX6_told_0 rfl (lv_at hl 1 rfl) ?_
  refine lv_iconst (v := zI 1) hx hb dX6_told_1 rfl ?_
  refine lv_bipush (v := zI 32) hx hb dX6_told_2 (by decide +kernel) ?_
  refine vp_callSi (va_runS (As := [.int (zI (n)), .int (zI (1)), .int (zI (32))]) (rest := []) ⟨hx, hb, hml, hown, hts⟩ (c_X6_within l n 1 32 gn (by omega) (by omega)) (va_cwS 3 hts gX6_told_X6_within rfl rfl rfl (by decide +kernel) ⟨Nat.le_of_ble_eq_true rfl, Nat.le_of_ble_eq_true rfl⟩) ⟨fun a U g mk q => q, fun U hU hW => ⟨rfl, trivial⟩⟩ rfl rfl hl.1 rfl (lv_room (Nat.le_of_ble_eq_true rfl)) dX6_told_4 ⟨Nat.le_of_ble_eq_true rfl, Nat.le_of_ble_eq_true rfl⟩).run (fun r hr4 => ?_)
  obtain rfl := hr4
  refine z_ifb_ne (P := (1) ≤ (n) ∧ (n) ≤ (32)) (tgt := 12) hx hb dX6_told_7 (by decide) (fun c7 => ?_) (fun c7 => ?_)
  · refine lv_iload_n hx hb dX6_told_12 rfl (lv_at hl 1 rfl) ?_
    refine z_re (e2 := ((n.toNat : Nat) : Int)) (by omega) ?_
    refine vp_callSi (va_runS (As := [.int (zI (((n.toNat : Nat) : Int)))]) (rest := []) ⟨hx, hb, hml, hown, hts⟩ (c_X5_seedOf l n.toNat (by omega) (by omega)) (va_cwS 1 hts gX6_told_X5_seedOf rfl rfl rfl (by decide +kernel) ⟨Nat.le_of_ble_eq_true rfl, Nat.le_of_ble_eq_true rfl⟩) ⟨fun a U g mk q => q, fun U hU hW => ⟨rfl, trivial⟩⟩ rfl rfl hl.1 rfl (lv_room (Nat.le_of_ble_eq_true rfl)) dX6_told_13 ⟨Nat.le_of_ble_eq_true rfl, Nat.le_of_ble_eq_true rfl⟩).run (fun r hr13 => ?_)
    obtain rfl := hr13
    have hs := seed_le n.toNat
    refine lv_istore_n (lv' := [(2, .int (zI (((seedN (n.toNat) : Nat) : Int)))), (0, .ref x), (1, .int (zI (n)))]) hx hb dX6_told_16 rfl hl (by decide) rfl (fun ls hl => ?_)
    refine lv_iload_n hx hb dX6_told_17 rfl (lv_at hl 0 rfl) ?_
    refine z_if_ne (tgt := 24) hx hb dX6_told_18 (by decide) (by omega) (fun c18 => ?_) (fun c18 => ?_)
    · refine lv_aload_n hx hb dX6_told_24 rfl (lv_at hl 1 rfl) ?_
      refine lv_iload_n hx hb dX6_told_25 rfl (lv_at hl 2 rfl) ?_
      refine lv_iconst (v := zI 2) hx hb dX6_told_26 rfl ?_
      have hPc := hP.sub (ws' := [oX x a (((R : Nat) : Int))]) [0] rfl
      refine vp_callSi (va_runV (As := [.int (zI (n)), .int (zI (2))]) (rest := []) ⟨hx, hb, hml, hown, hts⟩ (c_X6_fits l D t x a R gV.1 n 2 (by omega) (by omega)) (cwV 2 hts gX6_told_X6_fits rfl rfl rfl (by decide +kernel) ⟨Nat.le_of_ble_eq_true rfl, Nat.le_of_ble_eq_true rfl⟩) ⟨fun a U g mk q => ⟨q.1, q.2.1, va_K.moved (u := U) (U := U.calling g mk a) (Vm.Alike.refl U.vm) q.2.2⟩, va_recv hK hPc (ci := 5) (q0 := 0) rfl rfl, fun U hU hW => ⟨rfl, by rw [hU]; exact hPc, va_K.moved hW.alike hK⟩⟩ rfl rfl hl.1 rfl (lv_room (Nat.le_of_ble_eq_true rfl)) dX6_told_27 ⟨Nat.le_of_ble_eq_true rfl, Nat.le_of_ble_eq_true rfl⟩).run (fun r hr27 => ?_)
      obtain rfl := hr27
      refine z_ifb_ne (P := (n) ≤ 32 ∧ (R : Int) + (2) ≤ 24) (tgt := 36) hx hb dX6_told_30 (by decide) (fun c30 => ?_) (fun c30 => ?_)
      · refine lv_iload_n hx hb dX6_told_36 rfl (lv_at hl 0 rfl) ?_
        refine vp_callSl (va_runS (As := [.int (zI (((seedN (n.toNat) : Nat) : Int)))]) (rest := []) ⟨hx, hb, hml, hown, hts⟩ (c_X5_firstOfSeed l (seedN n.toNat) (by omega)) (va_cwS 1 hts gX6_told_X5_firstOfSeed rfl rfl rfl (by decide +kernel) ⟨Nat.le_of_ble_eq_true rfl, Nat.le_of_ble_eq_true rfl⟩) ⟨fun a U g mk q => q, fun U hU hW => ⟨rfl, trivial⟩⟩ rfl rfl hl.1 rfl (lv_room (Nat.le_of_ble_eq_true rfl)) dX6_told_37 ⟨Nat.le_of_ble_eq_true rfl, Nat.le_of_ble_eq_true rfl⟩).run (fun r hr37 => ?_)
        obtain rfl := hr37
        refine lv_lstore_n (lv' := [(3, .long (lN (seedA (seedN (n.toNat))))), (2, .int (zI (((seedN (n.toNat) : Nat) : Int)))), (0, .ref x), (1, .int (zI (n)))]) hx hb dX6_told_40 rfl hl (by decide) rfl (fun ls hl => ?_)
        refine lv_iload_n hx hb dX6_told_41 rfl (lv_at hl 1 rfl) ?_
        refine vp_callSl (va_runS (As := [.int (zI (((seedN (n.toNat) : Nat) : Int)))]) (rest := []) ⟨hx, hb, hml, hown, hts⟩ (c_X5_secondOfSeed l (seedN n.toNat) (by omega)) (va_cwS 1 hts gX6_told_X5_secondOfSeed rfl rfl rfl (by decide +kernel) ⟨Nat.le_of_ble_eq_true rfl, Nat.le_of_ble_eq_true rfl⟩) ⟨fun a U g mk q => q, fun U hU hW => ⟨rfl, trivial⟩⟩ rfl rfl hl.1 rfl (lv_room (Nat.le_of_ble_eq_true rfl)) dX6_told_42 ⟨Nat.le_of_ble_eq_true rfl, Nat.le_of_ble_eq_true rfl⟩).run (fun r hr42 => ?_)
        obtain rfl := hr42
        refine lv_lstore (lv' := [(5, .long (lN (seedB (seedN (n.toNat))))), (3, .long (lN (seedA (seedN (n.toNat))))), (2, .int (zI (((seedN (n.toNat) : Nat) : Int)))), (0, .ref x), (1, .int (zI (n)))]) hx hb dX6_told_45 hl (by decide) rfl (fun ls hl => ?_)
        have hq3 : n.toNat ≤ seedN n.toNat * 2 ^ 6 := by omega
        refine lv_iload_n hx hb dX6_told_47 rfl (lv_at hl 2 rfl) ?_
        refine lv_istore (lv' := [(7, .int (zI (((seedN (n.toNat) : Nat) : Int)))), (5, .long (lN (seedB (seedN (n.toNat))))), (3, .long (lN (seedA (seedN (n.toNat))))), (2, .int (zI (((seedN (n.toNat) : Nat) : Int)))), (0, .ref x), (1, .int (zI (n)))]) hx hb dX6_told_48 hl (by decide) rfl (fun ls hl => ?_)
        have lp50 : ∀ (NN : Nat) (f : Nat) (q : Nat) (a1 : Nat) (b1 : Nat) (q1 : 1 ≤ q) (q2 : tl f q n.toNat a1 b1 = tlP n.toNat) (q3 : n.toNat ≤ q * 2 ^ f) (q4 : q ≤ 64), n.toNat - q < NN → ∀ (H : Heap) (locs : List Loc), va_P D vwCl [oX x a (((R : Nat) : Int)), aI t (a 0) 24 (cN F), aJ t (a 1) 24 (G)] H → va_D AA [oX x a (((R : Nat) : Int)), aI t (a 0) 24 (cN F), aJ t (a 1) 24 (G)] → va_S AA s.heap H locs → ∀ (ls : Array Slot), lv_has ls 10 [(0, .ref x), (1, .int (zI (n))), (3, .long (lN (a1))), (5, .long (lN (b1))), (7, .int (zI (q)))] → W p l e (headSpec wsX6_told ({ frames := 2, cells := 0, slots := 0, locals := 42 })).room s m ([.ref x, .int (zI (n))] : List Value).toArray below meth c H locs 0 0 (MQ below (va_Qi (fun r (u : RT) => r = zI (sp_told R F G n).1 ∧ u = (sp_told R F G n).2) (fun (u : RT) t1 => va_P D vwCl ([oX x a (((u.1 : Nat) : Int)), aI t (a 0) 24 (cN (u.2.1)), aJ t (a 1) 24 (u.2.2)]) t1.heap ∧ va_K D vwCl (TY t) t1 ∧ va_D (AA) ([oX x a (((u.1 : Nat) : Int)), aI t (a 0) 24 (cN (u.2.1)), aJ t (a 1) 24 (u.2.2)])) (AA)) ([.ref x, .int (zI (n))] : List Value).toArray s 0 0 (AA)) (F0 m 50 ls []) := by
          intro NN
          induction NN with
          | zero =>
            intro f q a1 b1 q1 q2 q3 q4 hmu
            exact absurd hmu (Nat.not_lt_zero _)
          | succ NN ih50 =>
            intro f q a1 b1 q1 q2 q3 q4 hmu H locs hP hD hS ls hl
            refine lv_iload hx hb dX6_told_50 (lv_at hl 4 rfl) ?_
            refine z_if_le (tgt := 98) hx hb dX6_told_52 (by decide) (by omega) (fun c52 => ?_) (fun c52 => ?_)
            · exact absurd c52 (by omega)
            · refine lv_iload hx hb dX6_told_55 (lv_at hl 4 rfl) ?_
              refine lv_iload_n hx hb dX6_told_57 rfl (lv_at hl 1 rfl) ?_
              refine z_icmp_ge (tgt := 98) hx hb dX6_told_58 (by decide) (by omega) (by omega) (fun c58 => ?_) (fun c58 => ?_)
              · have e1 := tl_e (f := f) (m := q) (n := n.toNat) (a := a1) (b := b1) (by omega)
                rw [q2] at e1
                have e2 : a1 = (tlP n.toNat).1 := by rw [e1]
                have e3 : b1 = (tlP n.toNat).2 := by rw [e1]
                refine lv_aload_n hx hb dX6_told_98 rfl (lv_at hl 0 rfl) ?_
                refine lv_iload_n hx hb dX6_told_99 rfl (lv_at hl 1 rfl) ?_
                refine z_re (e2 := ((n.toNat : Nat) : Int)) (by omega) ?_
                refine lv_lload_n hx hb dX6_told_100 rfl (lv_at hl 2 rfl) ?_
                refine n_re (e2 := (tlP n.toNat).1) (e2) ?_
                have hPc := hP.sub (ws' := [oX x a (((R : Nat) : Int)), aI t (a 0) 24 (cN F), aJ t (a 1) 24 (G)]) [0, 1, 2] rfl
                have hDc := hD.sub (ws' := [oX x a (((R : Nat) : Int)), aI t (a 0) 24 (cN F), aJ t (a 1) 24 (G)]) [0, 1, 2] (by decide) rfl
                have hFc := va_free (wc := [oX x a (((R : Nat) : Int)), aI t (a 0) 24 (cN F), aJ t (a 1) 24 (G)]) hD hS hA [0, 1, 2] rfl
                refine va_calli (va_runV (As := [.int (zI (((n.toNat : Nat) : Int))), .long (lN ((tlP n.toNat).1))]) (rest := []) ⟨hx, hb, hml, hown, hts⟩ (c_X6_added l D t H.size x a (R) (F) (G) (by omega) (n.toNat) ((tlP n.toNat).1) (by omega)) (cwV 2 hts gX6_told_X6_added rfl rfl rfl (by decide +kernel) ⟨Nat.le_of_ble_eq_true rfl, Nat.le_of_ble_eq_true rfl⟩) ⟨fun a U g mk q => by obtain ⟨q0, q1, qP, qK, qD⟩ := q; exact ⟨q0, q1, qP, va_K.moved (u := U) (U := U.calling g mk a) (Vm.Alike.refl U.vm) qK, qD⟩, va_recv hK hPc (ci := 5) (q0 := 0) rfl rfl, fun U hU hW => ⟨rfl, by rw [hU], by rw [hU]; exact hPc, va_K.moved hW.alike hK, hDc.weaken (fun _ _ _ _ => trivial)⟩⟩ rfl rfl hl.1 rfl (lv_room (Nat.le_of_ble_eq_true rfl)) dX6_told_101 ⟨Nat.le_of_ble_eq_true rfl, Nat.le_of_ble_eq_true rfl⟩) hS (fun q _ h => hFc q h) hFc (fun r u tq H1 locs ht hvm hr101 hB hz1 hk1 hS => ?_)
                obtain ⟨R2, F2, G2⟩ := u
                obtain ⟨hP1, hK1, hD1⟩ := hB
                rw [ht] at hP1
                obtain ⟨hP, hD⟩ := va_join (wr := []) (w1 := [oX x a (((R2 : Nat) : Int)), aI t (a 0) 24 (cN (F2)), aJ t (a 1) 24 (G2)]) hP hD [0, 1, 2] [] rfl rfl (by decide) (by decide) hk1 hFc hP1 hD1
                generalize H1 = H at hP hS ⊢
                have hP : va_P D vwCl [oX x a (((R2 : Nat) : Int)), aI t (a 0) 24 (cN (F2)), aJ t (a 1) 24 (G2)] H := hP
                have hD : va_D AA [oX x a (((R2 : Nat) : Int)), aI t (a 0) 24 (cN (F2)), aJ t (a 1) 24 (G2)] := hD
                obtain ⟨rfl, hu⟩ := hr101
                obtain ⟨rfl, rfl, rfl⟩ : R2 = R + 1 ∧ F2 = va_up (F) (R) (n.toNat) ∧ G2 = va_up (G) (R) ((tlP n.toNat).1) := ⟨congrArg (·.1) hu, congrArg (·.2.1) hu, congrArg (·.2.2) hu⟩
                refine lv_istore (lv' := [(7, .int (zI (((R : Nat) : Int)))), (0, .ref x), (1, .int (zI (n))), (3, .long (lN (a1))), (5, .long (lN (b1)))]) hx hb dX6_told_104 hl (by decide) rfl (fun ls hl => ?_)
                refine lv_aload_n hx hb dX6_told_106 rfl (lv_at hl 1 rfl) ?_
                refine lv_iload_n hx hb dX6_told_107 rfl (lv_at hl 2 rfl) ?_
                refine z_re (e2 := ((n.toNat : Nat) : Int)) (by omega) ?_
                refine lv_lload hx hb dX6_told_108 (lv_at hl 4 rfl) ?_
                refine n_re (e2 := (tlP n.toNat).2) (e3) ?_
                have hPc := hP.sub (ws' := [oX x a ((((R + 1) : Nat) : Int)), aI t (a 0) 24 (cN ((va_up (F) (R) (n.toNat)))), aJ t (a 1) 24 ((va_up (G) (R) ((tlP n.toNat).1)))]) [0, 1, 2] rfl
                have hDc := hD.sub (ws' := [oX x a ((((R + 1) : Nat) : Int)), aI t (a 0) 24 (cN ((va_up (F) (R) (n.toNat)))), aJ t (a 1) 24 ((va_up (G) (R) ((tlP n.toNat).1)))]) [0, 1, 2] (by decide) rfl
                have hFc := va_free (wc := [oX x a ((((R + 1) : Nat) : Int)), aI t (a 0) 24 (cN ((va_up (F) (R) (n.toNat)))), aJ t (a 1) 24 ((va_up (G) (R) ((tlP n.toNat).1)))]) hD hS hA [0, 1, 2] rfl
                refine va_calli (va_runV (As := [.int (zI (((n.toNat : Nat) : Int))), .long (lN ((tlP n.toNat).2))]) (rest := []) ⟨hx, hb, hml, hown, hts⟩ (c_X6_added l D t H.size x a (R + 1) (va_up F R (n.toNat)) (va_up G R ((tlP n.toNat).1)) (by omega) (n.toNat) ((tlP n.toNat).2) (by omega)) (cwV 2 hts gX6_told_X6_added rfl rfl rfl (by decide +kernel) ⟨Nat.le_of_ble_eq_true rfl, Nat.le_of_ble_eq_true rfl⟩) ⟨fun a U g mk q => by obtain ⟨q0, q1, qP, qK, qD⟩ := q; exact ⟨q0, q1, qP, va_K.moved (u := U) (U := U.calling g mk a) (Vm.Alike.refl U.vm) qK, qD⟩, va_recv hK hPc (ci := 5) (q0 := 0) rfl rfl, fun U hU hW => ⟨rfl, by rw [hU], by rw [hU]; exact hPc, va_K.moved hW.alike hK, hDc.weaken (fun _ _ _ _ => trivial)⟩⟩ rfl rfl hl.1 rfl (lv_room (Nat.le_of_ble_eq_true rfl)) dX6_told_110 ⟨Nat.le_of_ble_eq_true rfl, Nat.le_of_ble_eq_true rfl⟩) hS (fun q _ h => hFc q h) hFc (fun r u tq H1 locs ht hvm hr110 hB hz1 hk1 hS => ?_)
                obtain ⟨R2b, F2b, G2b⟩ := u
                obtain ⟨hP1, hK1, hD1⟩ := hB
                rw [ht] at hP1
                obtain ⟨hP, hD⟩ := va_join (wr := []) (w1 := [oX x a (((R2b : Nat) : Int)), aI t (a 0) 24 (cN (F2b)), aJ t (a 1) 24 (G2b)]) hP hD [0, 1, 2] [] rfl rfl (by decide) (by decide) hk1 hFc hP1 hD1
                generalize H1 = H at hP hS ⊢
                have hP : va_P D vwCl [oX x a (((R2b : Nat) : Int)), aI t (a 0) 24 (cN (F2b)), aJ t (a 1) 24 (G2b)] H := hP
                have hD : va_D AA [oX x a (((R2b : Nat) : Int)), aI t (a 0) 24 (cN (F2b)), aJ t (a 1) 24 (G2b)] := hD
                obtain ⟨rfl, hu⟩ := hr110
                obtain ⟨rfl, rfl, rfl⟩ : R2b = R + 1 + 1 ∧ F2b = va_up (va_up F R (n.toNat)) (R + 1) (n.toNat) ∧ G2b = va_up (va_up G R ((tlP n.toNat).1)) (R + 1) ((tlP n.toNat).2) := ⟨congrArg (·.1) hu, congrArg (·.2.1) hu, congrArg (·.2.2) hu⟩
                refine lv_pop hx hb dX6_told_113 rfl ?_
                refine lv_iload hx hb dX6_told_114 (lv_at hl 0 rfl) ?_
                have hP := hP.sub (ws' := [oX x a (((R + 1 + 1 : Nat) : Int)), aI t (a 0) 24 (cN (va_up (va_up F R (n.toNat)) (R + 1) (n.toNat))), aJ t (a 1) 24 (va_up (va_up G R ((tlP n.toNat).1)) (R + 1) ((tlP n.toNat).2))]) [0, 1, 2] rfl
                have hD := hD.sub (ws' := [oX x a (((R + 1 + 1 : Nat) : Int)), aI t (a 0) 24 (cN (va_up (va_up F R (n.toNat)) (R + 1) (n.toNat))), aJ t (a 1) 24 (va_up (va_up G R ((tlP n.toNat).1)) (R + 1) ((tlP n.toNat).2))]) [0, 1, 2] (by decide) rfl
                exact W.iret (v := (zI (((R : Nat) : Int)))) hx hb hr (fun tq ht hW => ⟨⟨_, (R + 1 + 1, va_up (va_up F R (n.toNat)) (R + 1) (n.toNat), va_up (va_up G R ((tlP n.toNat).1)) (R + 1) ((tlP n.toNat).2)), rfl, by rw [sp_told, if_pos c7, if_neg (by omega), sp_add2_y (by omega)]; exact ⟨rfl, rfl⟩, by rw [ht]; exact hP, va_K.moved hW.alike hK, hD⟩, hS.F ht⟩) hS.2.2 dX6_told_116
              · have hf : 1 ≤ f := by
                  rcases Nat.eq_zero_or_pos f with z | z
                  · rw [z, Nat.pow_zero, Nat.mul_one] at q3; omega
                  · exact z
                refine lv_lload_n hx hb dX6_told_61 rfl (lv_at hl 2 rfl) ?_
                refine lv_iload hx hb dX6_told_62 (lv_at hl 4 rfl) ?_
                refine lv_lload hx hb dX6_told_64 (lv_at hl 3 rfl) ?_
                refine vp_callSl (va_runS (As := [.long (lN (a1)), .int (zI (q)), .long (lN (b1))]) (rest := []) ⟨hx, hb, hml, hown, hts⟩ (c_X3_joined l a1 q b1 (by omega)) (va_cwS 3 hts gX6_told_X3_joined rfl rfl rfl (by decide +kernel) ⟨Nat.le_of_ble_eq_true rfl, Nat.le_of_ble_eq_true rfl⟩) ⟨fun a U g mk q => q, fun U hU hW => ⟨rfl, trivial⟩⟩ rfl rfl hl.1 rfl (lv_room (Nat.le_of_ble_eq_true rfl)) dX6_told_66 ⟨Nat.le_of_ble_eq_true rfl, Nat.le_of_ble_eq_true rfl⟩).run (fun r hr66 => ?_)
                obtain rfl := hr66
                refine lv_lstore (lv' := [(8, .long (lN (jn (a1) (q) (b1)))), (0, .ref x), (1, .int (zI (n))), (3, .long (lN (a1))), (5, .long (lN (b1))), (7, .int (zI (q)))]) hx hb dX6_told_69 hl (by decide) rfl (fun ls hl => ?_)
                refine lv_lload_n hx hb dX6_told_71 rfl (lv_at hl 3 rfl) ?_
                refine lv_iload hx hb dX6_told_72 (lv_at hl 5 rfl) ?_
                refine lv_lload hx hb dX6_told_74 (lv_at hl 4 rfl) ?_
                refine lv_iload hx hb dX6_told_76 (lv_at hl 5 rfl) ?_
                refine vp_callSl (va_runS (As := [.long (lN (b1)), .int (zI (q))]) (rest := [.int (zI (q)), .long (lN (a1))]) ⟨hx, hb, hml, hown, hts⟩ (c_X3_opposite l b1 q (by omega)) (va_cwS 2 hts gX6_told_X3_opposite rfl rfl rfl (by decide +kernel) ⟨Nat.le_of_ble_eq_true rfl, Nat.le_of_ble_eq_true rfl⟩) ⟨fun a U g mk q => q, fun U hU hW => ⟨rfl, trivial⟩⟩ rfl rfl hl.1 rfl (lv_room (Nat.le_of_ble_eq_true rfl)) dX6_told_78 ⟨Nat.le_of_ble_eq_true rfl, Nat.le_of_ble_eq_true rfl⟩).run (fun r hr78 => ?_)
                obtain rfl := hr78
                refine vp_callSl (va_runS (As := [.long (lN (a1)), .int (zI (q)), .long (lN ((b1) ^^^ (2 ^ (q) - 1)))]) (rest := []) ⟨hx, hb, hml, hown, hts⟩ (c_X3_joined l a1 q (b1 ^^^ (2 ^ q - 1)) (by omega)) (va_cwS 3 hts gX6_told_X3_joined rfl rfl rfl (by decide +kernel) ⟨Nat.le_of_ble_eq_true rfl, Nat.le_of_ble_eq_true rfl⟩) ⟨fun a U g mk q => q, fun U hU hW => ⟨rfl, trivial⟩⟩ rfl rfl hl.1 rfl (lv_room (Nat.le_of_ble_eq_true rfl)) dX6_told_81 ⟨Nat.le_of_ble_eq_true rfl, Nat.le_of_ble_eq_true rfl⟩).run (fun r hr81 => ?_)
                obtain rfl := hr81
                refine lv_lstore (lv' := [(5, .long (lN (jn (a1) (q) ((b1) ^^^ (2 ^ (q) - 1))))), (8, .long (lN (jn (a1) (q) (b1)))), (0, .ref x), (1, .int (zI (n))), (3, .long (lN (a1))), (7, .int (zI (q)))]) hx hb dX6_told_84 hl (by decide) rfl (fun ls hl => ?_)
                refine lv_lload hx hb dX6_told_86 (lv_at hl 1 rfl) ?_
                refine lv_lstore_n (lv' := [(3, .long (lN (jn (a1) (q) (b1)))), (5, .long (lN (jn (a1) (q) ((b1) ^^^ (2 ^ (q) - 1))))), (8, .long (lN (jn (a1) (q) (b1)))), (0, .ref x), (1, .int (zI (n))), (7, .int (zI (q)))]) hx hb dX6_told_88 rfl hl (by decide) rfl (fun ls hl => ?_)
                refine lv_iconst (v := zI 2) hx hb dX6_told_89 rfl ?_
                refine lv_iload hx hb dX6_told_90 (lv_at hl 5 rfl) ?_
                refine z_imul hx hb dX6_told_92 ?_
                refine z_re (e2 := ((2 * q : Nat) : Int)) (by omega) ?_
                refine lv_istore (lv' := [(7, .int (zI (((2 * q : Nat) : Int)))), (3, .long (lN (jn (a1) (q) (b1)))), (5, .long (lN (jn (a1) (q) ((b1) ^^^ (2 ^ (q) - 1))))), (8, .long (lN (jn (a1) (q) (b1)))), (0, .ref x), (1, .int (zI (n)))]) hx hb dX6_told_93 hl (by decide) rfl (fun ls hl => ?_)
                refine lv_goto (tgt := 50) hx hb dX6_told_95 (by decide) ?_
                exact ih50 (f - 1) (2 * q) (jn a1 q b1) (jn a1 q (b1 ^^^ (2 ^ q - 1))) (by omega) (by rw [← q2, show tl f q n.toNat a1 b1 = tl (f - 1 + 1) q n.toNat a1 b1 by rw [show f - 1 + 1 = f by omega], tl_s (by omega)]) (by have z := pw_s hf; rw [z] at q3; rw [Nat.mul_comm 2 q, Nat.mul_assoc]; exact q3) (by omega) (by omega) _ _ hP hD hS _ (lv_sub hl [4, 5, 1, 2, 0] rfl)
        exact lp50 _ (6) (seedN n.toNat) (seedA (seedN n.toNat)) (seedB (seedN n.toNat)) (by omega) (rfl) (hq3) (by omega) (Nat.lt_succ_self _) _ _ hP hD hS _ (lv_sub hl [4, 5, 2, 1, 0] rfl)
      · refine lv_bipush (v := zI (-3)) hx hb dX6_told_33 (by decide +kernel) ?_
        have hP := hP.sub (ws' := [oX x a (((R : Nat) : Int)), aI t (a 0) 24 (cN (F)), aJ t (a 1) 24 (G)]) [0, 1, 2] rfl
        have hD := hD.sub (ws' := [oX x a (((R : Nat) : Int)), aI t (a 0) 24 (cN (F)), aJ t (a 1) 24 (G)]) [0, 1, 2] (by decide) rfl
        exact W.iret (v := (zI ((-3)))) hx hb hr (fun tq ht hW => ⟨⟨_, (R, F, G), rfl, by rw [sp_told, if_pos c7, if_neg (by omega), sp_add2_n (by omega)]; exact ⟨rfl, rfl⟩, by rw [ht]; exact hP, va_K.moved hW.alike hK, hD⟩, hS.F ht⟩) hS.2.2 dX6_told_35
    · refine lv_bipush (v := zI (-4)) hx hb dX6_told_21 (by decide +kernel) ?_
      have hP := hP.sub (ws' := [oX x a (((R : Nat) : Int)), aI t (a 0) 24 (cN (F)), aJ t (a 1) 24 (G)]) [0, 1, 2] rfl
      have hD := hD.sub (ws' := [oX x a (((R : Nat) : Int)), aI t (a 0) 24 (cN (F)), aJ t (a 1) 24 (G)]) [0, 1, 2] (by decide) rfl
      exact W.iret (v := (zI ((-4)))) hx hb hr (fun tq ht hW => ⟨⟨_, (R, F, G), rfl, by rw [sp_told, if_pos c7, if_pos (by omega)]; exact ⟨rfl, rfl⟩, by rw [ht]; exact hP, va_K.moved hW.alike hK, hD⟩, hS.F ht⟩) hS.2.2 dX6_told_23
  · refine lv_iconst (v := zI (-1)) hx hb dX6_told_10 rfl ?_
    have hP := hP.sub (ws' := [oX x a (((R : Nat) : Int)), aI t (a 0) 24 (cN (F)), aJ t (a 1) 24 (G)]) [0, 1, 2] rfl
    have hD := hD.sub (ws' := [oX x a (((R : Nat) : Int)), aI t (a 0) 24 (cN (F)), aJ t (a 1) 24 (G)]) [0, 1, 2] (by decide) rfl
    exact W.iret (v := (zI ((-1)))) hx hb hr (fun tq ht hW => ⟨⟨_, (R, F, G), rfl, by rw [sp_told, if_neg (c7)]; exact ⟨rfl, rfl⟩, by rw [ht]; exact hP, va_K.moved hW.alike hK, hD⟩, hS.F ht⟩) hS.2.2 dX6_told_11

-- why
set_option maxHeartbeats 4000000 in
set_option maxRecDepth 100000 in
theorem c_X6_why (l : Launch) (x : Nat) (n : Int) (gn : -2147483648 ≤ n ∧ n < 2147483648) : Met l yX6_why wsX6_why ({ frames := 4, cells := 0, slots := 0, locals := 93 }) (va_Pc [.ref x, .int (zI (n))] (fun _ => True)) (vp_Si (fun r => r = zI (sp_why n))) 0 0 (fun _ => False) := by
  refine Met.ofW (cc := cX6_why) (maxL := 2) (ret := (some .int)) (by decide) rfl ?_
  intro p e s m args below meth c s₁ B hml hv
  obtain ⟨rfl, -⟩ := hv
  have hx := B.exec
  have hb := B.bytes
  have hr := B.returns
  have hts := atoms_spec (ws := wsX6_why) B.pre
  have hown : s.vm.findClass RX6 = some m.cls := findClass_of_methodNamed B.named
  have hlocks := B.notSynchronized
  have hl := lv_entry ([.ref x, .int (zI (n))]) (n := 2) (Nat.le_of_ble_eq_true rfl)
  rw [lg_entry_eq]
  generalize (lg_sl ([.ref x, .int (zI (n))]) ++ List.replicate (2 - (lg_sl ([.ref x, .int (zI (n))])).length) Slot.unset).toArray = ls at hl ⊢
  have hl : lv_has ls 2 [(0, .ref x), (1, .int (zI (n)))] := hl
  refine lv_iload_n hx hb dX6_why_0 rfl (lv_at hl 1 rfl) ?_
  refine lv_iconst (v := zI 1) hx hb dX6_why_1 rfl ?_
  refine lv_ldc (v := zI 1000000) hx hb hown (hts (.constant RX6 155 (zI 1000000)) (by decide +kernel)) dX6_why_2 ?_
  refine vp_callSi (va_runS (As := [.int (zI (n)), .int (zI (1)), .int (zI (1000000))]) (rest := []) ⟨hx, hb, hml, hown, hts⟩ (c_X6_within l n 1 1000000 gn (by omega) (by omega)) (va_cwS 3 hts gX6_why_X6_within rfl rfl rfl (by decide +kernel) ⟨Nat.le_of_ble_eq_true rfl, Nat.le_of_ble_eq_true rfl⟩) ⟨fun a U g mk q => q, fun U hU hW => ⟨rfl, trivial⟩⟩ rfl rfl hl.1 rfl (lv_room (Nat.le_of_ble_eq_true rfl)) dX6_why_4 ⟨Nat.le_of_ble_eq_true rfl, Nat.le_of_ble_eq_true rfl⟩).run (fun r hr4 => ?_)
  obtain rfl := hr4
  refine z_ifb_ne (P := (1) ≤ (n) ∧ (n) ≤ (1000000)) (tgt := 12) hx hb dX6_why_7 (by decide) (fun c7 => ?_) (fun c7 => ?_)
  · refine lv_iload_n hx hb dX6_why_12 rfl (lv_at hl 1 rfl) ?_
    refine lv_iconst (v := zI 2) hx hb dX6_why_13 rfl ?_
    refine z_irem hx hb (by omega) (by omega) dX6_why_14 ?_
    refine lv_iconst (v := zI 1) hx hb dX6_why_15 rfl ?_
    refine z_icmp_ne (tgt := 26) hx hb dX6_why_16 (by decide) (by omega) (by omega) (fun c16 => ?_) (fun c16 => ?_)
    · refine lv_iload_n hx hb dX6_why_26 rfl (lv_at hl 1 rfl) ?_
      refine z_re (e2 := ((n.toNat : Nat) : Int)) (by omega) ?_
      refine lv_iconst (v := zI 2) hx hb dX6_why_27 rfl ?_
      refine vp_callSi (va_runS (As := [.int (zI (((n.toNat : Nat) : Int))), .int (zI (2))]) (rest := []) ⟨hx, hb, hml, hown, hts⟩ (c_X4_ways_1 l n.toNat (by omega)) (va_cwS 2 hts gX6_why_X4_ways rfl rfl rfl (by decide +kernel) ⟨Nat.le_of_ble_eq_true rfl, Nat.le_of_ble_eq_true rfl⟩) ⟨fun a U g mk q => q, fun U hU hW => ⟨rfl, trivial⟩⟩ rfl rfl hl.1 rfl (lv_room (Nat.le_of_ble_eq_true rfl)) dX6_why_28 ⟨Nat.le_of_ble_eq_true rfl, Nat.le_of_ble_eq_true rfl⟩).run (fun r hr28 => ?_)
      obtain rfl := hr28
      refine z_if_ne (tgt := 36) hx hb dX6_why_31 (by decide) (by have z := wy1_bd (n := n.toNat) (by omega) (sqN n.toNat); omega) (fun c31 => ?_) (fun c31 => ?_)
      · refine lv_iload_n hx hb dX6_why_36 rfl (lv_at hl 1 rfl) ?_
        refine z_re (e2 := ((n.toNat : Nat) : Int)) (by omega) ?_
        refine vp_callSi (va_runS (As := [.int (zI (((n.toNat : Nat) : Int)))]) (rest := []) ⟨hx, hb, hml, hown, hts⟩ (c_X4_hasPrimeOfRestThree l n.toNat (by omega) (by omega)) (va_cwS 1 hts gX6_why_X4_hasPrimeOfRestThree rfl rfl rfl (by decide +kernel) ⟨Nat.le_of_ble_eq_true rfl, Nat.le_of_ble_eq_true rfl⟩) ⟨fun a U g mk q => q, fun U hU hW => ⟨rfl, trivial⟩⟩ rfl rfl hl.1 rfl (lv_room (Nat.le_of_ble_eq_true rfl)) dX6_why_37 ⟨Nat.le_of_ble_eq_true rfl, Nat.le_of_ble_eq_true rfl⟩).run (fun r hr37 => ?_)
        obtain rfl := hr37
        refine z_ifb_eq (P := hpb (n.toNat) = true) (tgt := 47) hx hb dX6_why_40 (by decide) (fun c40 => ?_) (fun c40 => ?_)
        · refine lv_iconst (v := zI 0) hx hb dX6_why_47 rfl ?_
          exact W.iret (v := (zI (0))) hx hb hr (fun tq ht hW => ⟨_, rfl, by rw [sp_why, if_pos c7, if_neg (by omega), if_neg (by omega), if_neg c40], ht⟩) (fun q h => by cases h) dX6_why_48
        · refine lv_iconst (v := zI 3) hx hb dX6_why_43 rfl ?_
          refine lv_goto (tgt := 48) hx hb dX6_why_44 (by decide) ?_
          exact W.iret (v := (zI (3))) hx hb hr (fun tq ht hW => ⟨_, rfl, by rw [sp_why, if_pos c7, if_neg (by omega), if_neg (by omega), if_pos c40], ht⟩) (fun q h => by cases h) dX6_why_48
      · refine lv_iconst (v := zI 2) hx hb dX6_why_34 rfl ?_
        exact W.iret (v := (zI (2))) hx hb hr (fun tq ht hW => ⟨_, rfl, by rw [sp_why, if_pos c7, if_neg (by omega), if_pos (by omega)], ht⟩) (fun q h => by cases h) dX6_why_35
    · refine lv_iload_n hx hb dX6_why_19 rfl (lv_at hl 1 rfl) ?_
      refine lv_iconst (v := zI 1) hx hb dX6_why_20 rfl ?_
      refine z_icmp_eq (tgt := 26) hx hb dX6_why_21 (by decide) (by omega) (by omega) (fun c21 => ?_) (fun c21 => ?_)
      · refine lv_iload_n hx hb dX6_why_26 rfl (lv_at hl 1 rfl) ?_
        refine z_re (e2 := ((n.toNat : Nat) : Int)) (by omega) ?_
        refine lv_iconst (v := zI 2) hx hb dX6_why_27 rfl ?_
        refine vp_callSi (va_runS (As := [.int (zI (((n.toNat : Nat) : Int))), .int (zI (2))]) (rest := []) ⟨hx, hb, hml, hown, hts⟩ (c_X4_ways_1 l n.toNat (by omega)) (va_cwS 2 hts gX6_why_X4_ways rfl rfl rfl (by decide +kernel) ⟨Nat.le_of_ble_eq_true rfl, Nat.le_of_ble_eq_true rfl⟩) ⟨fun a U g mk q => q, fun U hU hW => ⟨rfl, trivial⟩⟩ rfl rfl hl.1 rfl (lv_room (Nat.le_of_ble_eq_true rfl)) dX6_why_28 ⟨Nat.le_of_ble_eq_true rfl, Nat.le_of_ble_eq_true rfl⟩).run (fun r hr28 => ?_)
        obtain rfl := hr28
        refine z_if_ne (tgt := 36) hx hb dX6_why_31 (by decide) (by have z := wy1_bd (n := n.toNat) (by omega) (sqN n.toNat); omega) (fun c31 => ?_) (fun c31 => ?_)
        · refine lv_iload_n hx hb dX6_why_36 rfl (lv_at hl 1 rfl) ?_
          refine z_re (e2 := ((n.toNat : Nat) : Int)) (by omega) ?_
          refine vp_callSi (va_runS (As := [.int (zI (((n.toNat : Nat) : Int)))]) (rest := []) ⟨hx, hb, hml, hown, hts⟩ (c_X4_hasPrimeOfRestThree l n.toNat (by omega) (by omega)) (va_cwS 1 hts gX6_why_X4_hasPrimeOfRestThree rfl rfl rfl (by decide +kernel) ⟨Nat.le_of_ble_eq_true rfl, Nat.le_of_ble_eq_true rfl⟩) ⟨fun a U g mk q => q, fun U hU hW => ⟨rfl, trivial⟩⟩ rfl rfl hl.1 rfl (lv_room (Nat.le_of_ble_eq_true rfl)) dX6_why_37 ⟨Nat.le_of_ble_eq_true rfl, Nat.le_of_ble_eq_true rfl⟩).run (fun r hr37 => ?_)
          obtain rfl := hr37
          refine z_ifb_eq (P := hpb (n.toNat) = true) (tgt := 47) hx hb dX6_why_40 (by decide) (fun c40 => ?_) (fun c40 => ?_)
          · refine lv_iconst (v := zI 0) hx hb dX6_why_47 rfl ?_
            exact W.iret (v := (zI (0))) hx hb hr (fun tq ht hW => ⟨_, rfl, by rw [sp_why, if_pos c7, if_neg (by omega), if_neg (by omega), if_neg c40], ht⟩) (fun q h => by cases h) dX6_why_48
          · refine lv_iconst (v := zI 3) hx hb dX6_why_43 rfl ?_
            refine lv_goto (tgt := 48) hx hb dX6_why_44 (by decide) ?_
            exact W.iret (v := (zI (3))) hx hb hr (fun tq ht hW => ⟨_, rfl, by rw [sp_why, if_pos c7, if_neg (by omega), if_neg (by omega), if_pos c40], ht⟩) (fun q h => by cases h) dX6_why_48
        · refine lv_iconst (v := zI 2) hx hb dX6_why_34 rfl ?_
          exact W.iret (v := (zI (2))) hx hb hr (fun tq ht hW => ⟨_, rfl, by rw [sp_why, if_pos c7, if_neg (by omega), if_pos (by omega)], ht⟩) (fun q h => by cases h) dX6_why_35
      · refine lv_iconst (v := zI 1) hx hb dX6_why_24 rfl ?_
        exact W.iret (v := (zI (1))) hx hb hr (fun tq ht hW => ⟨_, rfl, by rw [sp_why, if_pos c7, if_pos (by omega)], ht⟩) (fun q h => by cases h) dX6_why_25
  · refine lv_iconst (v := zI (-1)) hx hb dX6_why_10 rfl ?_
    exact W.iret (v := (zI ((-1)))) hx hb hr (fun tq ht hW => ⟨_, rfl, by rw [sp_why, if_neg c7], ht⟩) (fun q h => by cases h) dX6_why_11

-- squares
set_option maxHeartbeats 4000000 in
set_option maxRecDepth 100000 in
theorem c_X6_squares (l : Launch) (x : Nat) (n k : Int) (gn : -2147483648 ≤ n ∧ n < 2147483648) (gk : -2147483648 ≤ k ∧ k < 2147483648) : Met l yX6_squares wsX6_squares ({ frames := 6, cells := 0, slots := 0, locals := 143 }) (va_Pc [.ref x, .int (zI (n)), .int (zI (k))] (fun _ => True)) (vp_Si (fun r => r = zI (sp_squares n k))) 0 0 (fun _ => False) := by
  refine Met.ofW (cc := cX6_squares) (maxL := 3) (ret := (some .int)) (by decide) rfl ?_
  intro p e s m args below meth c s₁ B hml hv
  obtain ⟨rfl, -⟩ := hv
  have hx := B.exec
  have hb := B.bytes
  have hr := B.returns
  have hts := atoms_spec (ws := wsX6_squares) B.pre
  have hown : s.vm.findClass RX6 = some m.cls := findClass_of_methodNamed B.named
  have hlocks := B.notSynchronized
  have hl := lv_entry ([.ref x, .int (zI (n)), .int (zI (k))]) (n := 3) (Nat.le_of_ble_eq_true rfl)
  rw [lg_entry_eq]
  generalize (lg_sl ([.ref x, .int (zI (n)), .int (zI (k))]) ++ List.replicate (3 - (lg_sl ([.ref x, .int (zI (n)), .int (zI (k))])).length) Slot.unset).toArray = ls at hl ⊢
  have hl : lv_has ls 3 [(0, .ref x), (1, .int (zI (n))), (2, .int (zI (k)))] := hl
  refine lv_iload_n hx hb dX6_squares_0 rfl (lv_at hl 2 rfl) ?_
  refine lv_iconst (v := zI 1) hx hb dX6_squares_1 rfl ?_
  refine lv_iconst (v := zI 4) hx hb dX6_squares_2 rfl ?_
  refine vp_callSi (va_runS (As := [.int (zI (k)), .int (zI (1)), .int (zI (4))]) (rest := []) ⟨hx, hb, hml, hown, hts⟩ (c_X6_within l k 1 4 gk (by omega) (by omega)) (va_cwS 3 hts gX6_squares_X6_within rfl rfl rfl (by decide +kernel) ⟨Nat.le_of_ble_eq_true rfl, Nat.le_of_ble_eq_true rfl⟩) ⟨fun a U g mk q => q, fun U hU hW => ⟨rfl, trivial⟩⟩ rfl rfl hl.1 rfl (lv_room (Nat.le_of_ble_eq_true rfl)) dX6_squares_3 ⟨Nat.le_of_ble_eq_true rfl, Nat.le_of_ble_eq_true rfl⟩).run (fun r hr3 => ?_)
  obtain rfl := hr3
  refine z_ifb_eq (P := (1) ≤ (k) ∧ (k) ≤ (4)) (tgt := 30) hx hb dX6_squares_6 (by decide) (fun c6 => ?_) (fun c6 => ?_)
  · refine lv_iconst (v := zI (-1)) hx hb dX6_squares_30 rfl ?_
    exact W.iret (v := (zI ((-1)))) hx hb hr (fun tq ht hW => ⟨_, rfl, by rw [sp_squares, if_neg (fun z => c6 z.1)], ht⟩) (fun q h => by cases h) dX6_squares_31
  · refine lv_iload_n hx hb dX6_squares_9 rfl (lv_at hl 1 rfl) ?_
    refine lv_iconst (v := zI 0) hx hb dX6_squares_10 rfl ?_
    refine lv_iload_n hx hb dX6_squares_11 rfl (lv_at hl 2 rfl) ?_
    refine lv_iconst (v := zI 2) hx hb dX6_squares_12 rfl ?_
    refine z_icmp_gt (tgt := 21) hx hb dX6_squares_13 (by decide) (by omega) (by omega) (fun c13 => ?_) (fun c13 => ?_)
    · refine lv_sipush (v := zI 1000) hx hb dX6_squares_21 (by decide +kernel) ?_
      refine vp_callSi (va_runS (As := [.int (zI (n)), .int (zI (0)), .int (zI (1000))]) (rest := []) ⟨hx, hb, hml, hown, hts⟩ (c_X6_within l n 0 (1000) gn (by omega) (by omega)) (va_cwS 3 hts gX6_squares_X6_within rfl rfl rfl (by decide +kernel) ⟨Nat.le_of_ble_eq_true rfl, Nat.le_of_ble_eq_true rfl⟩) ⟨fun a U g mk q => q, fun U hU hW => ⟨rfl, trivial⟩⟩ rfl rfl hl.1 rfl (lv_room (Nat.le_of_ble_eq_true rfl)) dX6_squares_24 ⟨Nat.le_of_ble_eq_true rfl, Nat.le_of_ble_eq_true rfl⟩).run (fun r hr24 => ?_)
      obtain rfl := hr24
      refine z_ifb_ne (P := (0) ≤ (n) ∧ (n) ≤ (1000)) (tgt := 32) hx hb dX6_squares_27 (by decide) (fun c27 => ?_) (fun c27 => ?_)
      · rcases (show k = 1 ∨ k = 2 ∨ k = 3 ∨ k = 4 by omega) with rfl | rfl | rfl | rfl
        · refine lv_iload_n hx hb dX6_squares_32 rfl (lv_at hl 1 rfl) ?_
          refine z_re (e2 := ((n.toNat : Nat) : Int)) (by omega) ?_
          refine lv_iload_n hx hb dX6_squares_33 rfl (lv_at hl 2 rfl) ?_
          refine vp_callSi (va_runS (As := [.int (zI (((n.toNat : Nat) : Int))), .int (zI (1))]) (rest := []) ⟨hx, hb, hml, hown, hts⟩ (c_X4_ways_0 l n.toNat (by omega)) (va_cwS 2 hts gX6_squares_X4_ways rfl rfl rfl (by decide +kernel) ⟨Nat.le_of_ble_eq_true rfl, Nat.le_of_ble_eq_true rfl⟩) ⟨fun a U g mk q => q, fun U hU hW => ⟨rfl, trivial⟩⟩ rfl rfl hl.1 rfl (lv_room (Nat.le_of_ble_eq_true rfl)) dX6_squares_34 ⟨Nat.le_of_ble_eq_true rfl, Nat.le_of_ble_eq_true rfl⟩).run (fun r hr34 => ?_)
          obtain rfl := hr34
          exact W.iret (v := (zI (((wy 0 (n.toNat) (sqN (n.toNat)) : Nat) : Int)))) hx hb hr (fun tq ht hW => ⟨_, rfl, by rw [sp_squares, if_pos ⟨c6, by rw [if_neg (by omega)]; exact c27⟩]; rfl, ht⟩) (fun q h => by cases h) dX6_squares_37
        · refine lv_iload_n hx hb dX6_squares_32 rfl (lv_at hl 1 rfl) ?_
          refine z_re (e2 := ((n.toNat : Nat) : Int)) (by omega) ?_
          refine lv_iload_n hx hb dX6_squares_33 rfl (lv_at hl 2 rfl) ?_
          refine vp_callSi (va_runS (As := [.int (zI (((n.toNat : Nat) : Int))), .int (zI (2))]) (rest := []) ⟨hx, hb, hml, hown, hts⟩ (c_X4_ways_1 l n.toNat (by omega)) (va_cwS 2 hts gX6_squares_X4_ways rfl rfl rfl (by decide +kernel) ⟨Nat.le_of_ble_eq_true rfl, Nat.le_of_ble_eq_true rfl⟩) ⟨fun a U g mk q => q, fun U hU hW => ⟨rfl, trivial⟩⟩ rfl rfl hl.1 rfl (lv_room (Nat.le_of_ble_eq_true rfl)) dX6_squares_34 ⟨Nat.le_of_ble_eq_true rfl, Nat.le_of_ble_eq_true rfl⟩).run (fun r hr34 => ?_)
          obtain rfl := hr34
          exact W.iret (v := (zI (((wy 1 (n.toNat) (sqN (n.toNat)) : Nat) : Int)))) hx hb hr (fun tq ht hW => ⟨_, rfl, by rw [sp_squares, if_pos ⟨c6, by rw [if_neg (by omega)]; exact c27⟩]; rfl, ht⟩) (fun q h => by cases h) dX6_squares_37
        · refine lv_iload_n hx hb dX6_squares_32 rfl (lv_at hl 1 rfl) ?_
          refine z_re (e2 := ((n.toNat : Nat) : Int)) (by omega) ?_
          refine lv_iload_n hx hb dX6_squares_33 rfl (lv_at hl 2 rfl) ?_
          refine vp_callSi (va_runS (As := [.int (zI (((n.toNat : Nat) : Int))), .int (zI (3))]) (rest := []) ⟨hx, hb, hml, hown, hts⟩ (c_X4_ways_2 l n.toNat (by omega)) (va_cwS 2 hts gX6_squares_X4_ways rfl rfl rfl (by decide +kernel) ⟨Nat.le_of_ble_eq_true rfl, Nat.le_of_ble_eq_true rfl⟩) ⟨fun a U g mk q => q, fun U hU hW => ⟨rfl, trivial⟩⟩ rfl rfl hl.1 rfl (lv_room (Nat.le_of_ble_eq_true rfl)) dX6_squares_34 ⟨Nat.le_of_ble_eq_true rfl, Nat.le_of_ble_eq_true rfl⟩).run (fun r hr34 => ?_)
          obtain rfl := hr34
          exact W.iret (v := (zI (((wy 2 (n.toNat) (sqN (n.toNat)) : Nat) : Int)))) hx hb hr (fun tq ht hW => ⟨_, rfl, by rw [sp_squares, if_pos ⟨c6, by rw [if_neg (by omega)]; exact c27⟩]; rfl, ht⟩) (fun q h => by cases h) dX6_squares_37
        · refine lv_iload_n hx hb dX6_squares_32 rfl (lv_at hl 1 rfl) ?_
          refine z_re (e2 := ((n.toNat : Nat) : Int)) (by omega) ?_
          refine lv_iload_n hx hb dX6_squares_33 rfl (lv_at hl 2 rfl) ?_
          refine vp_callSi (va_runS (As := [.int (zI (((n.toNat : Nat) : Int))), .int (zI (4))]) (rest := []) ⟨hx, hb, hml, hown, hts⟩ (c_X4_ways_3 l n.toNat (by omega)) (va_cwS 2 hts gX6_squares_X4_ways rfl rfl rfl (by decide +kernel) ⟨Nat.le_of_ble_eq_true rfl, Nat.le_of_ble_eq_true rfl⟩) ⟨fun a U g mk q => q, fun U hU hW => ⟨rfl, trivial⟩⟩ rfl rfl hl.1 rfl (lv_room (Nat.le_of_ble_eq_true rfl)) dX6_squares_34 ⟨Nat.le_of_ble_eq_true rfl, Nat.le_of_ble_eq_true rfl⟩).run (fun r hr34 => ?_)
          obtain rfl := hr34
          exact W.iret (v := (zI (((wy 3 (n.toNat) (sqN (n.toNat)) : Nat) : Int)))) hx hb hr (fun tq ht hW => ⟨_, rfl, by rw [sp_squares, if_pos ⟨c6, by rw [if_neg (by omega)]; exact c27⟩]; rfl, ht⟩) (fun q h => by cases h) dX6_squares_37
      · refine lv_iconst (v := zI (-1)) hx hb dX6_squares_30 rfl ?_
        exact W.iret (v := (zI ((-1)))) hx hb hr (fun tq ht hW => ⟨_, rfl, by rw [sp_squares, if_neg (fun z => c27 (by have y := z.2; rw [if_neg (by omega)] at y; exact y))], ht⟩) (fun q h => by cases h) dX6_squares_31
    · refine lv_ldc (v := zI 1000000) hx hb hown (hts (.constant RX6 155 (zI 1000000)) (by decide +kernel)) dX6_squares_16 ?_
      refine lv_goto (tgt := 24) hx hb dX6_squares_18 (by decide) ?_
      refine vp_callSi (va_runS (As := [.int (zI (n)), .int (zI (0)), .int (zI (1000000))]) (rest := []) ⟨hx, hb, hml, hown, hts⟩ (c_X6_within l n 0 (1000000) gn (by omega) (by omega)) (va_cwS 3 hts gX6_squares_X6_within rfl rfl rfl (by decide +kernel) ⟨Nat.le_of_ble_eq_true rfl, Nat.le_of_ble_eq_true rfl⟩) ⟨fun a U g mk q => q, fun U hU hW => ⟨rfl, trivial⟩⟩ rfl rfl hl.1 rfl (lv_room (Nat.le_of_ble_eq_true rfl)) dX6_squares_24 ⟨Nat.le_of_ble_eq_true rfl, Nat.le_of_ble_eq_true rfl⟩).run (fun r hr24 => ?_)
      obtain rfl := hr24
      refine z_ifb_ne (P := (0) ≤ (n) ∧ (n) ≤ (1000000)) (tgt := 32) hx hb dX6_squares_27 (by decide) (fun c27 => ?_) (fun c27 => ?_)
      · rcases (show k = 1 ∨ k = 2 ∨ k = 3 ∨ k = 4 by omega) with rfl | rfl | rfl | rfl
        · refine lv_iload_n hx hb dX6_squares_32 rfl (lv_at hl 1 rfl) ?_
          refine z_re (e2 := ((n.toNat : Nat) : Int)) (by omega) ?_
          refine lv_iload_n hx hb dX6_squares_33 rfl (lv_at hl 2 rfl) ?_
          refine vp_callSi (va_runS (As := [.int (zI (((n.toNat : Nat) : Int))), .int (zI (1))]) (rest := []) ⟨hx, hb, hml, hown, hts⟩ (c_X4_ways_0 l n.toNat (by omega)) (va_cwS 2 hts gX6_squares_X4_ways rfl rfl rfl (by decide +kernel) ⟨Nat.le_of_ble_eq_true rfl, Nat.le_of_ble_eq_true rfl⟩) ⟨fun a U g mk q => q, fun U hU hW => ⟨rfl, trivial⟩⟩ rfl rfl hl.1 rfl (lv_room (Nat.le_of_ble_eq_true rfl)) dX6_squares_34 ⟨Nat.le_of_ble_eq_true rfl, Nat.le_of_ble_eq_true rfl⟩).run (fun r hr34 => ?_)
          obtain rfl := hr34
          exact W.iret (v := (zI (((wy 0 (n.toNat) (sqN (n.toNat)) : Nat) : Int)))) hx hb hr (fun tq ht hW => ⟨_, rfl, by rw [sp_squares, if_pos ⟨c6, by rw [if_pos (by omega)]; exact c27⟩]; rfl, ht⟩) (fun q h => by cases h) dX6_squares_37
        · refine lv_iload_n hx hb dX6_squares_32 rfl (lv_at hl 1 rfl) ?_
          refine z_re (e2 := ((n.toNat : Nat) : Int)) (by omega) ?_
          refine lv_iload_n hx hb dX6_squares_33 rfl (lv_at hl 2 rfl) ?_
          refine vp_callSi (va_runS (As := [.int (zI (((n.toNat : Nat) : Int))), .int (zI (2))]) (rest := []) ⟨hx, hb, hml, hown, hts⟩ (c_X4_ways_1 l n.toNat (by omega)) (va_cwS 2 hts gX6_squares_X4_ways rfl rfl rfl (by decide +kernel) ⟨Nat.le_of_ble_eq_true rfl, Nat.le_of_ble_eq_true rfl⟩) ⟨fun a U g mk q => q, fun U hU hW => ⟨rfl, trivial⟩⟩ rfl rfl hl.1 rfl (lv_room (Nat.le_of_ble_eq_true rfl)) dX6_squares_34 ⟨Nat.le_of_ble_eq_true rfl, Nat.le_of_ble_eq_true rfl⟩).run (fun r hr34 => ?_)
          obtain rfl := hr34
          exact W.iret (v := (zI (((wy 1 (n.toNat) (sqN (n.toNat)) : Nat) : Int)))) hx hb hr (fun tq ht hW => ⟨_, rfl, by rw [sp_squares, if_pos ⟨c6, by rw [if_pos (by omega)]; exact c27⟩]; rfl, ht⟩) (fun q h => by cases h) dX6_squares_37
        · refine lv_iload_n hx hb dX6_squares_32 rfl (lv_at hl 1 rfl) ?_
          refine z_re (e2 := ((n.toNat : Nat) : Int)) (by omega) ?_
          refine lv_iload_n hx hb dX6_squares_33 rfl (lv_at hl 2 rfl) ?_
          refine vp_callSi (va_runS (As := [.int (zI (((n.toNat : Nat) : Int))), .int (zI (3))]) (rest := []) ⟨hx, hb, hml, hown, hts⟩ (c_X4_ways_2 l n.toNat (by omega)) (va_cwS 2 hts gX6_squares_X4_ways rfl rfl rfl (by decide +kernel) ⟨Nat.le_of_ble_eq_true rfl, Nat.le_of_ble_eq_true rfl⟩) ⟨fun a U g mk q => q, fun U hU hW => ⟨rfl, trivial⟩⟩ rfl rfl hl.1 rfl (lv_room (Nat.le_of_ble_eq_true rfl)) dX6_squares_34 ⟨Nat.le_of_ble_eq_true rfl, Nat.le_of_ble_eq_true rfl⟩).run (fun r hr34 => ?_)
          obtain rfl := hr34
          exact W.iret (v := (zI (((wy 2 (n.toNat) (sqN (n.toNat)) : Nat) : Int)))) hx hb hr (fun tq ht hW => ⟨_, rfl, by rw [sp_squares, if_pos ⟨c6, by rw [if_pos (by omega)]; exact c27⟩]; rfl, ht⟩) (fun q h => by cases h) dX6_squares_37
        · refine lv_iload_n hx hb dX6_squares_32 rfl (lv_at hl 1 rfl) ?_
          refine z_re (e2 := ((n.toNat : Nat) : Int)) (by omega) ?_
          refine lv_iload_n hx hb dX6_squares_33 rfl (lv_at hl 2 rfl) ?_
          refine vp_callSi (va_runS (As := [.int (zI (((n.toNat : Nat) : Int))), .int (zI (4))]) (rest := []) ⟨hx, hb, hml, hown, hts⟩ (c_X4_ways_3 l n.toNat (by omega)) (va_cwS 2 hts gX6_squares_X4_ways rfl rfl rfl (by decide +kernel) ⟨Nat.le_of_ble_eq_true rfl, Nat.le_of_ble_eq_true rfl⟩) ⟨fun a U g mk q => q, fun U hU hW => ⟨rfl, trivial⟩⟩ rfl rfl hl.1 rfl (lv_room (Nat.le_of_ble_eq_true rfl)) dX6_squares_34 ⟨Nat.le_of_ble_eq_true rfl, Nat.le_of_ble_eq_true rfl⟩).run (fun r hr34 => ?_)
          obtain rfl := hr34
          exact W.iret (v := (zI (((wy 3 (n.toNat) (sqN (n.toNat)) : Nat) : Int)))) hx hb hr (fun tq ht hW => ⟨_, rfl, by rw [sp_squares, if_pos ⟨c6, by rw [if_pos (by omega)]; exact c27⟩]; rfl, ht⟩) (fun q h => by cases h) dX6_squares_37
      · refine lv_iconst (v := zI (-1)) hx hb dX6_squares_30 rfl ?_
        exact W.iret (v := (zI ((-1)))) hx hb hr (fun tq ht hW => ⟨_, rfl, by rw [sp_squares, if_neg (fun z => c27 (by have y := z.2; rw [if_pos (by omega)] at y; exact y))], ht⟩) (fun q h => by cases h) dX6_squares_31
