/-! The check's own numbers, and the told pairs' seeds: the walks -/
def tI1 (n : Nat) : Nat := n - ((n >>> 1) &&& 1431655765)
def tI2 (n : Nat) : Nat := (tI1 n &&& 858993459) + ((tI1 n >>> 2) &&& 858993459)
def tI3 (n : Nat) : Nat := (tI2 n + tI2 n >>> 4) &&& 252645135
theorem tI_d : ∀ n, n < 33 → tI1 n < 4294967296 ∧ tI2 n < 4294967296 ∧ tI3 n < 4294967296 ∧ tI3 n + tI3 n >>> 8 < 4294967296 ∧ ((tI3 n + tI3 n >>> 8) + (tI3 n + tI3 n >>> 8) >>> 16) &&& 63 = pc n 6 := by decide +kernel
theorem one_d : ∀ n, n < 33 → 1 ≤ n → (pc n 6 = 1 ↔ (n = 1 ∨ n = 2 ∨ n = 4 ∨ n = 8 ∨ n = 16 ∨ n = 32)) := by decide +kernel
/-- the length from which a told pair is doubled; 0: none such -/
def seedN (n : Nat) : Nat := if n = 26 then 26 else if n = 10 ∨ n = 20 then 10 else if n = 1 ∨ n = 2 ∨ n = 4 ∨ n = 8 ∨ n = 16 ∨ n = 32 then 1 else 0
def seedA (s : Nat) : Nat := if s = 26 then 6477200 else if s = 10 then 212 else 0
def seedB (s : Nat) : Nat := if s = 26 then 60622224 else if s = 10 then 772 else 0
def trI (n w i : Nat) : Nat := if w = 0 then n - 1 - i else i
def trn (n x w : Nat) : Nat := TW n x (decide (w = 0)) (decide (w = 1)) (decide (w = 2))
def sg (b : Bool) : Int := if b then -1 else 1
theorem trI_lt {n w i : Nat} (h : i < n) : trI n w i < n := by unfold trI; split <;> omega
theorem trI_0 {n w i : Nat} (h : w = 0) (hi : i < n) : ((n - 1 : Nat) : Int) - (i : Int) = ((trI n w i : Nat) : Int) := by unfold trI; rw [if_pos h]; omega
theorem trI_1 {n w i : Nat} (h : ¬ w = 0) : (i : Int) = ((trI n w i : Nat) : Int) := by unfold trI; rw [if_neg h]
theorem sg_pm (x i : Nat) : pm x i = sg (x.testBit i) := rfl
theorem sg_not (b : Bool) : -(sg b) = sg (!b) := by cases b <;> rfl
theorem tr_neg {n x w i : Nat} (h : w = 1 ∨ (w = 2 ∧ i % 2 = 1)) : -(pm x (trI n w i)) = sg (tf n x (decide (w = 0)) (decide (w = 1)) (decide (w = 2)) i) := by
  rw [sg_pm, sg_not]
  congr 1
  rcases h with h | ⟨h, h2⟩
  · subst h; simp [tf, trI]
  · subst h; simp [tf, trI, h2]
theorem tr_pos {n x w i : Nat} (hw : w < 3) (h : ¬ (w = 1 ∨ (w = 2 ∧ i % 2 = 1))) : pm x (trI n w i) = sg (tf n x (decide (w = 0)) (decide (w = 1)) (decide (w = 2)) i) := by
  rw [sg_pm]
  congr 1
  rcases (show w = 0 ∨ (w = 2 ∧ ¬ i % 2 = 1) by omega) with h | ⟨h, h2⟩
  · subst h; simp [tf, trI]
  · subst h; simp [tf, trI, h2]
theorem sg_or (b : Bool) : -1 ≤ sg b ∧ sg b ≤ 1 := by cases b <;> decide
theorem ob_0 {f : Nat → Bool} {i : Nat} (h : 0 ≤ sg (f i)) : ob f i ||| 0 = ob f (i + 1) := by
  show _ = ob f i ||| (if f i then 1 <<< i else 0)
  cases hb : f i
  · rfl
  · rw [hb] at h; exact absurd h (by decide)
theorem ob_1 {f : Nat → Bool} {i : Nat} (h : sg (f i) < 0) : ob f i ||| (1 <<< i) = ob f (i + 1) := by
  show _ = ob f i ||| (if f i then 1 <<< i else 0)
  cases hb : f i
  · rw [hb] at h; exact absurd h (by decide)
  · rfl
theorem tbn_shl (b : Bool) (i : Nat) : b.toNat <<< i = if b then 1 <<< i else 0 := by cases b <;> simp
theorem TW_1 (n x : Nat) (b : Bool) : trn n (TW n x b false false) 1 = TW n x b true false := by
  unfold trn
  exact ob_cong (fun i hi => by simp [tf, TW, ob_tb, hi])
theorem TW_2 (n x : Nat) (b s : Bool) : trn n (TW n x b s false) 2 = TW n x b s true := by
  unfold trn
  exact ob_cong (fun i hi => by simp [tf, TW, ob_tb, hi])
theorem TW_00 {n x : Nat} (h : x < 2 ^ n) : trn n x 0 = TW n x true false false := by
  unfold trn
  exact ob_cong (fun i hi => by simp [tf])
theorem trn_lt (n x w : Nat) : trn n x w < 2 ^ n := TW_lt _ _ _ _ _
theorem rv_lt (n x : Nat) : rv n x < 2 ^ n := ob_lt _ n
/-- the pair is the least of its kind -/
def lxL (f g a b : Nat) : Bool := decide (f < a ∨ (f = a ∧ g < b))
def bitsB (k : Nat) : Bool := decide (0 < k)
def isLp (n a b τ : Nat) : Bool :=
  let x := TW n a (τ.testBit 0) (τ.testBit 2) (τ.testBit 4)
  let y := TW n b (τ.testBit 1) (τ.testBit 3) (τ.testBit 4)
  lxL (if τ.testBit 5 then y else x) (if τ.testBit 5 then x else y) a b
def isLs (n a b : Nat) : Bool := (List.range 64).all (fun τ => !isLp n a b τ)
theorem isLs_iff {n a b : Nat} : isLs n a b = true ↔ ∀ τ, τ < 64 → isLp n a b τ = false := by simp [isLs]
theorem tbits : ∀ τ, τ < 64 → (τ &&& 1 = (τ.testBit 0).toNat * 1 ∧ τ &&& 2 = (τ.testBit 1).toNat * 2 ∧ τ &&& 4 = (τ.testBit 2).toNat * 4 ∧ τ &&& 8 = (τ.testBit 3).toNat * 8 ∧ τ &&& 16 = (τ.testBit 4).toNat * 16 ∧ τ &&& 32 = (τ.testBit 5).toNat * 32) := by decide +kernel
theorem tb_f {b : Bool} {k v : Nat} (h : v = b.toNat * k) (hk : 0 < k) (c : ((v : Nat) : Int) ≤ 0) : b = false := by
  cases b
  · rfl
  · rw [h] at c; simp at c; omega
theorem tb_t {b : Bool} {k v : Nat} (h : v = b.toNat * k) (c : 0 < ((v : Nat) : Int)) : b = true := by
  cases b
  · rw [h] at c; simp at c
  · rfl
theorem tbn_n {b : Bool} (h : ¬ ((b.toNat : Nat) : Int) = ((1 : Nat) : Int)) : ((b.toNat : Nat) : Int) = 0 := by
  cases b
  · rfl
  · exact absurd rfl h
theorem tbn_y {b : Bool} (h : ((b.toNat : Nat) : Int) = ((1 : Nat) : Int)) : ¬ ((b.toNat : Nat) : Int) = 0 := by rw [h]; decide
-- Integer.bitCount, of small numbers
set_option maxHeartbeats 4000000 in
set_option maxRecDepth 100000 in
theorem c_J6_bitCount_0f7a4 (l : Launch) (n : Nat) (gn : n < 33) : Met l yJ6_bitCount_0f7a4 wsJ6_bitCount_0f7a4 ({ frames := 0, cells := 0, slots := 0, locals := 0 }) (va_Pc [.int (zI (n))] (fun _ => True)) (vp_Si (fun r => r = zI (pc n 6 : Int))) 0 0 (fun _ => False) := by
  refine Met.ofW (cc := cJ6_bitCount_0f7a4) (maxL := 1) (ret := (some .int)) (by decide) rfl ?_
  intro p e s m args below meth c s₁ B hml hv
  obtain ⟨rfl, -⟩ := hv
  have hx := B.exec
  have hb := B.bytes
  have hr := B.returns
  have hts := atoms_spec (ws := wsJ6_bitCount_0f7a4) B.pre
  have hown : s.vm.findClass RJ6 = some m.cls := findClass_of_methodNamed B.named
  have hlocks := B.notSynchronized
  have hl := lv_entry ([.int (zI (n))]) (n := 1) (Nat.le_of_ble_eq_true rfl)
  rw [lg_entry_eq]
  generalize (lg_sl ([.int (zI (n))]) ++ List.replicate (1 - (lg_sl ([.int (zI (n))])).length) Slot.unset).toArray = ls at hl ⊢
  have hl : lv_has ls 1 [(0, .int (zI (n)))] := hl
  obtain ⟨k1, k2, k3, k4, k5⟩ := tI_d n gn
  have k0 : (n >>> 1) &&& 1431655765 ≤ n := Nat.le_trans Nat.and_le_left (shr_le n 1)
  refine lv_iload_n hx hb dJ6_bitCount_0f7a4_0 rfl (lv_at hl 0 rfl) ?_
  refine lv_iload_n hx hb dJ6_bitCount_0f7a4_1 rfl (lv_at hl 0 rfl) ?_
  refine lv_iconst (v := zI 1) hx hb dJ6_bitCount_0f7a4_2 rfl ?_
  refine n_iushr hx hb (a := n) (q := 1) (by omega) (by omega) dJ6_bitCount_0f7a4_3 ?_
  refine lv_ldcw (v := zI 1431655765) hx hb hown (hts (.constant RJ6 265 (zI 1431655765)) (by decide +kernel)) dJ6_bitCount_0f7a4_4 ?_
  refine n_iand hx hb (a := (n) >>> (1)) (b := 1431655765) dJ6_bitCount_0f7a4_7 ?_
  refine z_isub hx hb dJ6_bitCount_0f7a4_8 ?_
  refine z_re (e2 := ((tI1 n : Nat) : Int)) (by unfold tI1; omega) ?_
  refine lv_istore_n (lv' := [(0, .int (zI (((tI1 n : Nat) : Int))))]) hx hb dJ6_bitCount_0f7a4_9 rfl hl (by decide) rfl (fun ls hl => ?_)
  refine lv_iload_n hx hb dJ6_bitCount_0f7a4_10 rfl (lv_at hl 0 rfl) ?_
  refine lv_ldcw (v := zI 858993459) hx hb hown (hts (.constant RJ6 266 (zI 858993459)) (by decide +kernel)) dJ6_bitCount_0f7a4_11 ?_
  refine n_iand hx hb (a := tI1 n) (b := 858993459) dJ6_bitCount_0f7a4_14 ?_
  refine lv_iload_n hx hb dJ6_bitCount_0f7a4_15 rfl (lv_at hl 0 rfl) ?_
  refine lv_iconst (v := zI 2) hx hb dJ6_bitCount_0f7a4_16 rfl ?_
  refine n_iushr hx hb (a := tI1 n) (q := 2) (by omega) (by omega) dJ6_bitCount_0f7a4_17 ?_
  refine lv_ldcw (v := zI 858993459) hx hb hown (hts (.constant RJ6 266 (zI 858993459)) (by decide +kernel)) dJ6_bitCount_0f7a4_18 ?_
  refine n_iand hx hb (a := (tI1 n) >>> (2)) (b := 858993459) dJ6_bitCount_0f7a4_21 ?_
  refine z_iadd hx hb dJ6_bitCount_0f7a4_22 ?_
  refine z_re (e2 := ((tI2 n : Nat) : Int)) (rfl) ?_
  refine lv_istore_n (lv' := [(0, .int (zI (((tI2 n : Nat) : Int))))]) hx hb dJ6_bitCount_0f7a4_23 rfl hl (by decide) rfl (fun ls hl => ?_)
  refine lv_iload_n hx hb dJ6_bitCount_0f7a4_24 rfl (lv_at hl 0 rfl) ?_
  refine lv_iload_n hx hb dJ6_bitCount_0f7a4_25 rfl (lv_at hl 0 rfl) ?_
  refine lv_iconst (v := zI 4) hx hb dJ6_bitCount_0f7a4_26 rfl ?_
  refine n_iushr hx hb (a := tI2 n) (q := 4) (by omega) (by omega) dJ6_bitCount_0f7a4_27 ?_
  refine z_iadd hx hb dJ6_bitCount_0f7a4_28 ?_
  refine z_re (e2 := ((tI2 n + (tI2 n) >>> (4) : Nat) : Int)) (by omega) ?_
  refine lv_ldcw (v := zI 252645135) hx hb hown (hts (.constant RJ6 267 (zI 252645135)) (by decide +kernel)) dJ6_bitCount_0f7a4_29 ?_
  refine n_iand hx hb (a := tI2 n + (tI2 n) >>> (4)) (b := 252645135) dJ6_bitCount_0f7a4_32 ?_
  refine z_re (e2 := ((tI3 n : Nat) : Int)) (rfl) ?_
  refine lv_istore_n (lv' := [(0, .int (zI (((tI3 n : Nat) : Int))))]) hx hb dJ6_bitCount_0f7a4_33 rfl hl (by decide) rfl (fun ls hl => ?_)
  refine lv_iload_n hx hb dJ6_bitCount_0f7a4_34 rfl (lv_at hl 0 rfl) ?_
  refine lv_iload_n hx hb dJ6_bitCount_0f7a4_35 rfl (lv_at hl 0 rfl) ?_
  refine lv_bipush (v := zI 8) hx hb dJ6_bitCount_0f7a4_36 (by decide +kernel) ?_
  refine n_iushr hx hb (a := tI3 n) (q := 8) (by omega) (by omega) dJ6_bitCount_0f7a4_38 ?_
  refine z_iadd hx hb dJ6_bitCount_0f7a4_39 ?_
  refine z_re (e2 := ((tI3 n + tI3 n >>> 8 : Nat) : Int)) (by rw [Int.natCast_add]) ?_
  refine lv_istore_n (lv' := [(0, .int (zI (((tI3 n + tI3 n >>> 8 : Nat) : Int))))]) hx hb dJ6_bitCount_0f7a4_40 rfl hl (by decide) rfl (fun ls hl => ?_)
  refine lv_iload_n hx hb dJ6_bitCount_0f7a4_41 rfl (lv_at hl 0 rfl) ?_
  refine lv_iload_n hx hb dJ6_bitCount_0f7a4_42 rfl (lv_at hl 0 rfl) ?_
  refine lv_bipush (v := zI 16) hx hb dJ6_bitCount_0f7a4_43 (by decide +kernel) ?_
  refine n_iushr hx hb (a := tI3 n + tI3 n >>> 8) (q := 16) (by omega) (by omega) dJ6_bitCount_0f7a4_45 ?_
  refine z_iadd hx hb dJ6_bitCount_0f7a4_46 ?_
  refine z_re (e2 := ((tI3 n + tI3 n >>> 8 + (tI3 n + tI3 n >>> 8) >>> (16) : Nat) : Int)) (by omega) ?_
  refine lv_istore_n (lv' := [(0, .int (zI (((tI3 n + tI3 n >>> 8 + (tI3 n + tI3 n >>> 8) >>> (16) : Nat) : Int))))]) hx hb dJ6_bitCount_0f7a4_47 rfl hl (by decide) rfl (fun ls hl => ?_)
  refine lv_iload_n hx hb dJ6_bitCount_0f7a4_48 rfl (lv_at hl 0 rfl) ?_
  refine lv_bipush (v := zI 63) hx hb dJ6_bitCount_0f7a4_49 (by decide +kernel) ?_
  refine n_iand hx hb (a := tI3 n + tI3 n >>> 8 + (tI3 n + tI3 n >>> 8) >>> (16)) (b := 63) dJ6_bitCount_0f7a4_51 ?_
  refine z_re (e2 := ((pc n 6 : Nat) : Int)) (by rw [k5]) ?_
  exact W.iret (v := (zI (((pc n 6 : Nat) : Int)))) hx hb hr (fun tq ht hW => ⟨_, rfl, rfl, ht⟩) (fun q h => by cases h) dJ6_bitCount_0f7a4_52

-- seedOf(n)
set_option maxHeartbeats 4000000 in
set_option maxRecDepth 100000 in
theorem c_X5_seedOf (l : Launch) (n : Nat) (g1 : 1 ≤ n) (gn : n < 33) : Met l yX5_seedOf wsX5_seedOf ({ frames := 1, cells := 0, slots := 0, locals := 20 }) (va_Pc [.int (zI (n))] (fun _ => True)) (vp_Si (fun r => r = zI (seedN n : Int))) 0 0 (fun _ => False) := by
  refine Met.ofW (cc := cX5_seedOf) (maxL := 1) (ret := (some .int)) (by decide) rfl ?_
  intro p e s m args below meth c s₁ B hml hv
  obtain ⟨rfl, -⟩ := hv
  have hx := B.exec
  have hb := B.bytes
  have hr := B.returns
  have hts := atoms_spec (ws := wsX5_seedOf) B.pre
  have hown : s.vm.findClass RX5 = some m.cls := findClass_of_methodNamed B.named
  have hlocks := B.notSynchronized
  have hl := lv_entry ([.int (zI (n))]) (n := 1) (Nat.le_of_ble_eq_true rfl)
  rw [lg_entry_eq]
  generalize (lg_sl ([.int (zI (n))]) ++ List.replicate (1 - (lg_sl ([.int (zI (n))])).length) Slot.unset).toArray = ls at hl ⊢
  have hl : lv_has ls 1 [(0, .int (zI (n)))] := hl
  refine lv_iload_n hx hb dX5_seedOf_0 rfl (lv_at hl 0 rfl) ?_
  refine lv_bipush (v := zI 26) hx hb dX5_seedOf_1 (by decide +kernel) ?_
  refine z_icmp_ne (tgt := 9) hx hb dX5_seedOf_3 (by decide) (by omega) (by omega) (fun c3 => ?_) (fun c3 => ?_)
  · refine lv_iload_n hx hb dX5_seedOf_9 rfl (lv_at hl 0 rfl) ?_
    refine lv_bipush (v := zI 10) hx hb dX5_seedOf_10 (by decide +kernel) ?_
    refine z_icmp_eq (tgt := 21) hx hb dX5_seedOf_12 (by decide) (by omega) (by omega) (fun c12 => ?_) (fun c12 => ?_)
    · refine lv_bipush (v := zI 10) hx hb dX5_seedOf_21 (by decide +kernel) ?_
      exact W.iret (v := (zI (10))) hx hb hr (fun tq ht hW => ⟨_, rfl, by rcases (show n = 10 ∨ n = 20 by omega) with z | z <;> rw [z] <;> rfl, ht⟩) (fun q h => by cases h) dX5_seedOf_23
    · refine lv_iload_n hx hb dX5_seedOf_15 rfl (lv_at hl 0 rfl) ?_
      refine lv_bipush (v := zI 20) hx hb dX5_seedOf_16 (by decide +kernel) ?_
      refine z_icmp_ne (tgt := 24) hx hb dX5_seedOf_18 (by decide) (by omega) (by omega) (fun c18 => ?_) (fun c18 => ?_)
      · refine lv_iload_n hx hb dX5_seedOf_24 rfl (lv_at hl 0 rfl) ?_
        refine vp_callSi (va_runS (As := [.int (zI (n))]) (rest := []) ⟨hx, hb, hml, hown, hts⟩ (c_J6_bitCount_0f7a4 l n gn) (va_cwS 1 hts gX5_seedOf_J6_bitCount_0f7a4 rfl rfl rfl (by decide +kernel) ⟨Nat.le_of_ble_eq_true rfl, Nat.le_of_ble_eq_true rfl⟩) ⟨fun a U g mk q => q, fun U hU hW => ⟨rfl, trivial⟩⟩ rfl rfl hl.1 rfl (lv_room (Nat.le_of_ble_eq_true rfl)) dX5_seedOf_25 ⟨Nat.le_of_ble_eq_true rfl, Nat.le_of_ble_eq_true rfl⟩).run (fun r hr25 => ?_)
        obtain rfl := hr25
        refine lv_iconst (v := zI 1) hx hb dX5_seedOf_28 rfl ?_
        refine z_icmp_ne (tgt := 36) hx hb dX5_seedOf_29 (by decide) (by have := pc_le n 6; omega) (by omega) (fun c29 => ?_) (fun c29 => ?_)
        · refine lv_iconst (v := zI 0) hx hb dX5_seedOf_36 rfl ?_
          exact W.iret (v := (zI (0))) hx hb hr (fun tq ht hW => ⟨_, rfl, by unfold seedN; rw [if_neg (by omega), if_neg (by omega), if_neg (fun z => c29 (by rw [(one_d n gn g1).mpr z]; rfl))]; rfl, ht⟩) (fun q h => by cases h) dX5_seedOf_37
        · refine lv_iconst (v := zI 1) hx hb dX5_seedOf_32 rfl ?_
          refine lv_goto (tgt := 37) hx hb dX5_seedOf_33 (by decide) ?_
          exact W.iret (v := (zI (1))) hx hb hr (fun tq ht hW => ⟨_, rfl, by unfold seedN; rw [if_neg (by omega), if_neg (by omega), if_pos ((one_d n gn g1).mp (by omega))]; rfl, ht⟩) (fun q h => by cases h) dX5_seedOf_37
      · refine lv_bipush (v := zI 10) hx hb dX5_seedOf_21 (by decide +kernel) ?_
        exact W.iret (v := (zI (10))) hx hb hr (fun tq ht hW => ⟨_, rfl, by rcases (show n = 10 ∨ n = 20 by omega) with z | z <;> rw [z] <;> rfl, ht⟩) (fun q h => by cases h) dX5_seedOf_23
  · refine lv_bipush (v := zI 26) hx hb dX5_seedOf_6 (by decide +kernel) ?_
    exact W.iret (v := (zI (26))) hx hb hr (fun tq ht hW => ⟨_, rfl, by rw [show n = 26 by omega]; rfl, ht⟩) (fun q h => by cases h) dX5_seedOf_8

-- firstOfSeed
set_option maxHeartbeats 4000000 in
set_option maxRecDepth 100000 in
theorem c_X5_firstOfSeed (l : Launch) (q : Nat) (gq : q < 33) : Met l yX5_firstOfSeed wsX5_firstOfSeed ({ frames := 0, cells := 0, slots := 0, locals := 0 }) (va_Pc [.int (zI (q))] (fun _ => True)) (vp_Sl (fun r => r = lN (seedA q))) 0 0 (fun _ => False) := by
  refine Met.ofW (cc := cX5_firstOfSeed) (maxL := 1) (ret := (some .long)) (by decide) rfl ?_
  intro p e s m args below meth c s₁ B hml hv
  obtain ⟨rfl, -⟩ := hv
  have hx := B.exec
  have hb := B.bytes
  have hr := B.returns
  have hts := atoms_spec (ws := wsX5_firstOfSeed) B.pre
  have hown : s.vm.findClass RX5 = some m.cls := findClass_of_methodNamed B.named
  have hlocks := B.notSynchronized
  have hl := lv_entry ([.int (zI (q))]) (n := 1) (Nat.le_of_ble_eq_true rfl)
  rw [lg_entry_eq]
  generalize (lg_sl ([.int (zI (q))]) ++ List.replicate (1 - (lg_sl ([.int (zI (q))])).length) Slot.unset).toArray = ls at hl ⊢
  have hl : lv_has ls 1 [(0, .int (zI (q)))] := hl
  refine lv_iload_n hx hb dX5_firstOfSeed_0 rfl (lv_at hl 0 rfl) ?_
  refine lv_bipush (v := zI 26) hx hb dX5_firstOfSeed_1 (by decide +kernel) ?_
  refine z_icmp_ne (tgt := 10) hx hb dX5_firstOfSeed_3 (by decide) (by omega) (by omega) (fun c3 => ?_) (fun c3 => ?_)
  · refine lv_iload_n hx hb dX5_firstOfSeed_10 rfl (lv_at hl 0 rfl) ?_
    refine lv_bipush (v := zI 10) hx hb dX5_firstOfSeed_11 (by decide +kernel) ?_
    refine z_icmp_ne (tgt := 22) hx hb dX5_firstOfSeed_13 (by decide) (by omega) (by omega) (fun c13 => ?_) (fun c13 => ?_)
    · refine lv_lconst (v := lN 0) hx hb dX5_firstOfSeed_22 rfl ?_
      exact W.lret (v := (lN (0))) hx hb hr (fun tq ht hW => ⟨_, rfl, by unfold seedA; rw [if_neg (by omega), if_neg (by omega)], ht⟩) (fun q h => by cases h) dX5_firstOfSeed_23
    · refine lv_ldc2 (v := lN 212) hx hb hown (hts (.constantLong RX5 17 (lN 212)) (by decide +kernel)) dX5_firstOfSeed_16 ?_
      refine lv_goto (tgt := 23) hx hb dX5_firstOfSeed_19 (by decide) ?_
      exact W.lret (v := (lN (212))) hx hb hr (fun tq ht hW => ⟨_, rfl, by unfold seedA; rw [if_neg (by omega), if_pos (by omega)], ht⟩) (fun q h => by cases h) dX5_firstOfSeed_23
  · refine lv_ldc2 (v := lN 6477200) hx hb hown (hts (.constantLong RX5 15 (lN 6477200)) (by decide +kernel)) dX5_firstOfSeed_6 ?_
    exact W.lret (v := (lN (6477200))) hx hb hr (fun tq ht hW => ⟨_, rfl, by rw [show q = 26 by omega]; rfl, ht⟩) (fun q h => by cases h) dX5_firstOfSeed_9

-- secondOfSeed
set_option maxHeartbeats 4000000 in
set_option maxRecDepth 100000 in
theorem c_X5_secondOfSeed (l : Launch) (q : Nat) (gq : q < 33) : Met l yX5_secondOfSeed wsX5_secondOfSeed ({ frames := 0, cells := 0, slots := 0, locals := 0 }) (va_Pc [.int (zI (q))] (fun _ => True)) (vp_Sl (fun r => r = lN (seedB q))) 0 0 (fun _ => False) := by
  refine Met.ofW (cc := cX5_secondOfSeed) (maxL := 1) (ret := (some .long)) (by decide) rfl ?_
  intro p e s m args below meth c s₁ B hml hv
  obtain ⟨rfl, -⟩ := hv
  have hx := B.exec
  have hb := B.bytes
  have hr := B.returns
  have hts := atoms_spec (ws := wsX5_secondOfSeed) B.pre
  have hown : s.vm.findClass RX5 = some m.cls := findClass_of_methodNamed B.named
  have hlocks := B.notSynchronized
  have hl := lv_entry ([.int (zI (q))]) (n := 1) (Nat.le_of_ble_eq_true rfl)
  rw [lg_entry_eq]
  generalize (lg_sl ([.int (zI (q))]) ++ List.replicate (1 - (lg_sl ([.int (zI (q))])).length) Slot.unset).toArray = ls at hl ⊢
  have hl : lv_has ls 1 [(0, .int (zI (q)))] := hl
  refine lv_iload_n hx hb dX5_secondOfSeed_0 rfl (lv_at hl 0 rfl) ?_
  refine lv_bipush (v := zI 26) hx hb dX5_secondOfSeed_1 (by decide +kernel) ?_
  refine z_icmp_ne (tgt := 10) hx hb dX5_secondOfSeed_3 (by decide) (by omega) (by omega) (fun c3 => ?_) (fun c3 => ?_)
  · refine lv_iload_n hx hb dX5_secondOfSeed_10 rfl (lv_at hl 0 rfl) ?_
    refine lv_bipush (v := zI 10) hx hb dX5_secondOfSeed_11 (by decide +kernel) ?_
    refine z_icmp_ne (tgt := 22) hx hb dX5_secondOfSeed_13 (by decide) (by omega) (by omega) (fun c13 => ?_) (fun c13 => ?_)
    · refine lv_lconst (v := lN 0) hx hb dX5_secondOfSeed_22 rfl ?_
      exact W.lret (v := (lN (0))) hx hb hr (fun tq ht hW => ⟨_, rfl, by unfold seedB; rw [if_neg (by omega), if_neg (by omega)], ht⟩) (fun q h => by cases h) dX5_secondOfSeed_23
    · refine lv_ldc2 (v := lN 772) hx hb hown (hts (.constantLong RX5 21 (lN 772)) (by decide +kernel)) dX5_secondOfSeed_16 ?_
      refine lv_goto (tgt := 23) hx hb dX5_secondOfSeed_19 (by decide) ?_
      exact W.lret (v := (lN (772))) hx hb hr (fun tq ht hW => ⟨_, rfl, by unfold seedB; rw [if_neg (by omega), if_pos (by omega)], ht⟩) (fun q h => by cases h) dX5_secondOfSeed_23
  · refine lv_ldc2 (v := lN 60622224) hx hb hown (hts (.constantLong RX5 19 (lN 60622224)) (by decide +kernel)) dX5_secondOfSeed_6 ?_
    exact W.lret (v := (lN (60622224))) hx hb hr (fun tq ht hW => ⟨_, rfl, by rw [show q = 26 by omega]; rfl, ht⟩) (fun q h => by cases h) dX5_secondOfSeed_9

-- within
set_option maxHeartbeats 4000000 in
set_option maxRecDepth 100000 in
theorem c_X6_within (l : Launch) (a b d : Int) (ga : -2147483648 ≤ a ∧ a < 2147483648) (gb : -2147483648 ≤ b ∧ b < 2147483648) (gd : -2147483648 ≤ d ∧ d < 2147483648) : Met l yX6_within wsX6_within ({ frames := 0, cells := 0, slots := 0, locals := 0 }) (va_Pc [.int (zI (a)), .int (zI (b)), .int (zI (d))] (fun _ => True)) (vp_Si (fun r => r = zI (bP (b ≤ a ∧ a ≤ d)))) 0 0 (fun _ => False) := by
  refine Met.ofW (cc := cX6_within) (maxL := 3) (ret := (some .boolean)) (by decide) rfl ?_
  intro p e s m args below meth c s₁ B hml hv
  obtain ⟨rfl, -⟩ := hv
  have hx := B.exec
  have hb := B.bytes
  have hr := B.returns
  have hts := atoms_spec (ws := wsX6_within) B.pre
  have hown : s.vm.findClass RX6 = some m.cls := findClass_of_methodNamed B.named
  have hlocks := B.notSynchronized
  have hl := lv_entry ([.int (zI (a)), .int (zI (b)), .int (zI (d))]) (n := 3) (Nat.le_of_ble_eq_true rfl)
  rw [lg_entry_eq]
  generalize (lg_sl ([.int (zI (a)), .int (zI (b)), .int (zI (d))]) ++ List.replicate (3 - (lg_sl ([.int (zI (a)), .int (zI (b)), .int (zI (d))])).length) Slot.unset).toArray = ls at hl ⊢
  have hl : lv_has ls 3 [(0, .int (zI (a))), (1, .int (zI (b))), (2, .int (zI (d)))] := hl
  refine lv_iload_n hx hb dX6_within_0 rfl (lv_at hl 0 rfl) ?_
  refine lv_iload_n hx hb dX6_within_1 rfl (lv_at hl 1 rfl) ?_
  refine z_icmp_lt (tgt := 14) hx hb dX6_within_2 (by decide) (by omega) (by omega) (fun c2 => ?_) (fun c2 => ?_)
  · refine lv_iconst (v := zI 0) hx hb dX6_within_14 rfl ?_
    exact W.zret (v := (zI (0))) hx hb hr (nar_b _ (by first | exact Or.inl rfl | exact Or.inr rfl | exact bP_or _)) (fun tq ht hW => ⟨_, rfl, by rw [bP_0 (show ¬ (b ≤ a ∧ a ≤ d) by omega)], ht⟩) (fun q h => by cases h) dX6_within_15
  · refine lv_iload_n hx hb dX6_within_5 rfl (lv_at hl 0 rfl) ?_
    refine lv_iload_n hx hb dX6_within_6 rfl (lv_at hl 2 rfl) ?_
    refine z_icmp_gt (tgt := 14) hx hb dX6_within_7 (by decide) (by omega) (by omega) (fun c7 => ?_) (fun c7 => ?_)
    · refine lv_iconst (v := zI 0) hx hb dX6_within_14 rfl ?_
      exact W.zret (v := (zI (0))) hx hb hr (nar_b _ (by first | exact Or.inl rfl | exact Or.inr rfl | exact bP_or _)) (fun tq ht hW => ⟨_, rfl, by rw [bP_0 (show ¬ (b ≤ a ∧ a ≤ d) by omega)], ht⟩) (fun q h => by cases h) dX6_within_15
    · refine lv_iconst (v := zI 1) hx hb dX6_within_10 rfl ?_
      refine lv_goto (tgt := 15) hx hb dX6_within_11 (by decide) ?_
      exact W.zret (v := (zI (1))) hx hb hr (nar_b _ (by first | exact Or.inl rfl | exact Or.inr rfl | exact bP_or _)) (fun tq ht hW => ⟨_, rfl, by rw [bP_1 (show b ≤ a ∧ a ≤ d by omega)], ht⟩) (fun q h => by cases h) dX6_within_15

-- isSheet
set_option maxHeartbeats 4000000 in
set_option maxRecDepth 100000 in
theorem c_X6_isSheet (l : Launch) (a : Int) (ga : -2147483648 ≤ a ∧ a < 2147483648) : Met l yX6_isSheet wsX6_isSheet ({ frames := 1, cells := 0, slots := 0, locals := 22 }) (va_Pc [.int (zI (a))] (fun _ => True)) (vp_Si (fun r => r = zI (bP (0 ≤ a ∧ a ≤ 3)))) 0 0 (fun _ => False) := by
  refine Met.ofW (cc := cX6_isSheet) (maxL := 1) (ret := (some .boolean)) (by decide) rfl ?_
  intro p e s m args below meth c s₁ B hml hv
  obtain ⟨rfl, -⟩ := hv
  have hx := B.exec
  have hb := B.bytes
  have hr := B.returns
  have hts := atoms_spec (ws := wsX6_isSheet) B.pre
  have hown : s.vm.findClass RX6 = some m.cls := findClass_of_methodNamed B.named
  have hlocks := B.notSynchronized
  have hl := lv_entry ([.int (zI (a))]) (n := 1) (Nat.le_of_ble_eq_true rfl)
  rw [lg_entry_eq]
  generalize (lg_sl ([.int (zI (a))]) ++ List.replicate (1 - (lg_sl ([.int (zI (a))])).length) Slot.unset).toArray = ls at hl ⊢
  have hl : lv_has ls 1 [(0, .int (zI (a)))] := hl
  refine lv_iload_n hx hb dX6_isSheet_0 rfl (lv_at hl 0 rfl) ?_
  refine lv_iconst (v := zI 0) hx hb dX6_isSheet_1 rfl ?_
  refine lv_iconst (v := zI 3) hx hb dX6_isSheet_2 rfl ?_
  refine vp_callSi (va_runS (As := [.int (zI (a)), .int (zI (0)), .int (zI (3))]) (rest := []) ⟨hx, hb, hml, hown, hts⟩ (c_X6_within l a 0 3 ga (by omega) (by omega)) (va_cwS 3 hts gX6_isSheet_X6_within rfl rfl rfl (by decide +kernel) ⟨Nat.le_of_ble_eq_true rfl, Nat.le_of_ble_eq_true rfl⟩) ⟨fun a U g mk q => q, fun U hU hW => ⟨rfl, trivial⟩⟩ rfl rfl hl.1 rfl (lv_room (Nat.le_of_ble_eq_true rfl)) dX6_isSheet_3 ⟨Nat.le_of_ble_eq_true rfl, Nat.le_of_ble_eq_true rfl⟩).run (fun r hr3 => ?_)
  obtain rfl := hr3
  exact W.zret (v := (zI (bP ((0) ≤ (a) ∧ (a) ≤ (3))))) hx hb hr (nar_b _ (by first | exact Or.inl rfl | exact Or.inr rfl | exact bP_or _)) (fun tq ht hW => ⟨_, rfl, rfl, ht⟩) (fun q h => by cases h) dX6_isSheet_6

-- isLane
set_option maxHeartbeats 4000000 in
set_option maxRecDepth 100000 in
theorem c_X6_isLane (l : Launch) (a : Int) (ga : -2147483648 ≤ a ∧ a < 2147483648) : Met l yX6_isLane wsX6_isLane ({ frames := 1, cells := 0, slots := 0, locals := 22 }) (va_Pc [.int (zI (a))] (fun _ => True)) (vp_Si (fun r => r = zI (bP (0 ≤ a ∧ a ≤ 2)))) 0 0 (fun _ => False) := by
  refine Met.ofW (cc := cX6_isLane) (maxL := 1) (ret := (some .boolean)) (by decide) rfl ?_
  intro p e s m args below meth c s₁ B hml hv
  obtain ⟨rfl, -⟩ := hv
  have hx := B.exec
  have hb := B.bytes
  have hr := B.returns
  have hts := atoms_spec (ws := wsX6_isLane) B.pre
  have hown : s.vm.findClass RX6 = some m.cls := findClass_of_methodNamed B.named
  have hlocks := B.notSynchronized
  have hl := lv_entry ([.int (zI (a))]) (n := 1) (Nat.le_of_ble_eq_true rfl)
  rw [lg_entry_eq]
  generalize (lg_sl ([.int (zI (a))]) ++ List.replicate (1 - (lg_sl ([.int (zI (a))])).length) Slot.unset).toArray = ls at hl ⊢
  have hl : lv_has ls 1 [(0, .int (zI (a)))] := hl
  refine lv_iload_n hx hb dX6_isLane_0 rfl (lv_at hl 0 rfl) ?_
  refine lv_iconst (v := zI 0) hx hb dX6_isLane_1 rfl ?_
  refine lv_iconst (v := zI 2) hx hb dX6_isLane_2 rfl ?_
  refine vp_callSi (va_runS (As := [.int (zI (a)), .int (zI (0)), .int (zI (2))]) (rest := []) ⟨hx, hb, hml, hown, hts⟩ (c_X6_within l a 0 2 ga (by omega) (by omega)) (va_cwS 3 hts gX6_isLane_X6_within rfl rfl rfl (by decide +kernel) ⟨Nat.le_of_ble_eq_true rfl, Nat.le_of_ble_eq_true rfl⟩) ⟨fun a U g mk q => q, fun U hU hW => ⟨rfl, trivial⟩⟩ rfl rfl hl.1 rfl (lv_room (Nat.le_of_ble_eq_true rfl)) dX6_isLane_3 ⟨Nat.le_of_ble_eq_true rfl, Nat.le_of_ble_eq_true rfl⟩).run (fun r hr3 => ?_)
  obtain rfl := hr3
  exact W.zret (v := (zI (bP ((0) ≤ (a) ∧ (a) ≤ (2))))) hx hb hr (nar_b _ (by first | exact Or.inl rfl | exact Or.inr rfl | exact bP_or _)) (fun tq ht hW => ⟨_, rfl, rfl, ht⟩) (fun q h => by cases h) dX6_isLane_6

-- the check: in
set_option maxHeartbeats 4000000 in
set_option maxRecDepth 100000 in
theorem c_X7_in (l : Launch) (v lo hi : Int64) : Met l yX7_in wsX7_in ({ frames := 0, cells := 0, slots := 0, locals := 0 }) (va_Pc [.long (v), .long (lo), .long (hi)] (fun _ => True)) (vp_Si (fun r => r = zI (bP (lo.toInt ≤ v.toInt ∧ v.toInt ≤ hi.toInt)))) 0 0 (fun _ => False) := by
  refine Met.ofW (cc := cX7_in) (maxL := 6) (ret := (some .boolean)) (by decide) rfl ?_
  intro p e s m args below meth c s₁ B hml hv
  obtain ⟨rfl, -⟩ := hv
  have hx := B.exec
  have hb := B.bytes
  have hr := B.returns
  have hts := atoms_spec (ws := wsX7_in) B.pre
  have hown : s.vm.findClass RX7 = some m.cls := findClass_of_methodNamed B.named
  have hlocks := B.notSynchronized
  have hl := lv_entry ([.long (v), .long (lo), .long (hi)]) (n := 6) (Nat.le_of_ble_eq_true rfl)
  rw [lg_entry_eq]
  generalize (lg_sl ([.long (v), .long (lo), .long (hi)]) ++ List.replicate (6 - (lg_sl ([.long (v), .long (lo), .long (hi)])).length) Slot.unset).toArray = ls at hl ⊢
  have hl : lv_has ls 6 [(0, .long (v)), (2, .long (lo)), (4, .long (hi))] := hl
  refine lv_lload_n hx hb dX7_in_0 rfl (lv_at hl 0 rfl) ?_
  refine lv_lload_n hx hb dX7_in_1 rfl (lv_at hl 1 rfl) ?_
  refine z_lcmp_lt (a := (v).toInt) (b := (lo).toInt) (tgt := 17) hx hb dX7_in_2 dX7_in_3 (by decide) rfl rfl (fun c2 => ?_) (fun c2 => ?_)
  · refine lv_iconst (v := zI 0) hx hb dX7_in_17 rfl ?_
    exact W.zret (v := (zI (0))) hx hb hr (nar_b _ (by first | exact Or.inl rfl | exact Or.inr rfl | exact bP_or _)) (fun tq ht hW => ⟨_, rfl, by rw [bP_0 (show ¬ (lo.toInt ≤ v.toInt ∧ v.toInt ≤ hi.toInt) by omega)], ht⟩) (fun q h => by cases h) dX7_in_18
  · refine lv_lload_n hx hb dX7_in_6 rfl (lv_at hl 0 rfl) ?_
    refine lv_lload hx hb dX7_in_7 (lv_at hl 2 rfl) ?_
    refine z_lcmp_gt (a := (v).toInt) (b := (hi).toInt) (tgt := 17) hx hb dX7_in_9 dX7_in_10 (by decide) rfl rfl (fun c9 => ?_) (fun c9 => ?_)
    · refine lv_iconst (v := zI 0) hx hb dX7_in_17 rfl ?_
      exact W.zret (v := (zI (0))) hx hb hr (nar_b _ (by first | exact Or.inl rfl | exact Or.inr rfl | exact bP_or _)) (fun tq ht hW => ⟨_, rfl, by rw [bP_0 (show ¬ (lo.toInt ≤ v.toInt ∧ v.toInt ≤ hi.toInt) by omega)], ht⟩) (fun q h => by cases h) dX7_in_18
    · refine lv_iconst (v := zI 1) hx hb dX7_in_13 rfl ?_
      refine lv_goto (tgt := 18) hx hb dX7_in_14 (by decide) ?_
      exact W.zret (v := (zI (1))) hx hb hr (nar_b _ (by first | exact Or.inl rfl | exact Or.inr rfl | exact bP_or _)) (fun tq ht hW => ⟨_, rfl, by rw [bP_1 (show lo.toInt ≤ v.toInt ∧ v.toInt ≤ hi.toInt by omega)], ht⟩) (fun q h => by cases h) dX7_in_18

-- the check: at
set_option maxHeartbeats 4000000 in
set_option maxRecDepth 100000 in
theorem c_X7_at (l : Launch) (x i : Nat) (gx : x < 4294967296) (gi : i < 64) : Met l yX7_at wsX7_at ({ frames := 0, cells := 0, slots := 0, locals := 0 }) (va_Pc [.long (lN (x)), .int (zI (i))] (fun _ => True)) (vp_Si (fun r => r = zI (pm x i))) 0 0 (fun _ => False) := by
  refine Met.ofW (cc := cX7_at) (maxL := 3) (ret := (some .int)) (by decide) rfl ?_
  intro p e s m args below meth c s₁ B hml hv
  obtain ⟨rfl, -⟩ := hv
  have hx := B.exec
  have hb := B.bytes
  have hr := B.returns
  have hts := atoms_spec (ws := wsX7_at) B.pre
  have hown : s.vm.findClass RX7 = some m.cls := findClass_of_methodNamed B.named
  have hlocks := B.notSynchronized
  have hl := lv_entry ([.long (lN (x)), .int (zI (i))]) (n := 3) (Nat.le_of_ble_eq_true rfl)
  rw [lg_entry_eq]
  generalize (lg_sl ([.long (lN (x)), .int (zI (i))]) ++ List.replicate (3 - (lg_sl ([.long (lN (x)), .int (zI (i))])).length) Slot.unset).toArray = ls at hl ⊢
  have hl : lv_has ls 3 [(0, .long (lN (x))), (2, .int (zI (i)))] := hl
  refine lv_lload_n hx hb dX7_at_0 rfl (lv_at hl 0 rfl) ?_
  refine lv_iload_n hx hb dX7_at_1 rfl (lv_at hl 1 rfl) ?_
  refine n_lshr hx hb (q := i) (by omega) (by omega) dX7_at_2 ?_
  refine lv_lconst (v := lN 1) hx hb dX7_at_3 rfl ?_
  refine n_land hx hb dX7_at_4 ?_
  refine n_re (e2 := (x.testBit i).toNat) (tbN x i) ?_
  refine lv_lconst (v := lN 1) hx hb dX7_at_5 rfl ?_
  refine z_lcmp_ne (a := (((x.testBit i).toNat : Nat) : Int)) (b := ((1 : Nat) : Int)) (tgt := 14) hx hb dX7_at_6 dX7_at_7 (by decide) (lN_toI (tbn_lt _)) (lN_toI (by omega)) (fun c6 => ?_) (fun c6 => ?_)
  · refine lv_iconst (v := zI 1) hx hb dX7_at_14 rfl ?_
    exact W.iret (v := (zI (1))) hx hb hr (fun tq ht hW => ⟨_, rfl, by rw [pm_1 (tbn_n c6)], ht⟩) (fun q h => by cases h) dX7_at_15
  · refine lv_iconst (v := zI (-1)) hx hb dX7_at_10 rfl ?_
    refine lv_goto (tgt := 15) hx hb dX7_at_11 (by decide) ?_
    exact W.iret (v := (zI ((-1)))) hx hb hr (fun tq ht hW => ⟨_, rfl, by rw [pm_m (tbn_y c6)], ht⟩) (fun q h => by cases h) dX7_at_15

-- the check: openOf
set_option maxHeartbeats 4000000 in
set_option maxRecDepth 100000 in
theorem c_X7_openOf (l : Launch) (n x k : Nat) (gn : n ≤ 32) (gx : x < 4294967296) (gk : k ≤ 32) : Met l yX7_openOf wsX7_openOf ({ frames := 1, cells := 0, slots := 0, locals := 22 }) (va_Pc [.int (zI (n)), .long (lN (x)), .int (zI (k))] (fun _ => True)) (vp_Si (fun r => r = zI (oS n x k))) 0 0 (fun _ => False) := by
  refine Met.ofW (cc := cX7_openOf) (maxL := 6) (ret := (some .int)) (by decide) rfl ?_
  intro p e s m args below meth c s₁ B hml hv
  obtain ⟨rfl, -⟩ := hv
  have hx := B.exec
  have hb := B.bytes
  have hr := B.returns
  have hts := atoms_spec (ws := wsX7_openOf) B.pre
  have hown : s.vm.findClass RX7 = some m.cls := findClass_of_methodNamed B.named
  have hlocks := B.notSynchronized
  have hl := lv_entry ([.int (zI (n)), .long (lN (x)), .int (zI (k))]) (n := 6) (Nat.le_of_ble_eq_true rfl)
  rw [lg_entry_eq]
  generalize (lg_sl ([.int (zI (n)), .long (lN (x)), .int (zI (k))]) ++ List.replicate (6 - (lg_sl ([.int (zI (n)), .long (lN (x)), .int (zI (k))])).length) Slot.unset).toArray = ls at hl ⊢
  have hl : lv_has ls 6 [(0, .int (zI (n))), (1, .long (lN (x))), (3, .int (zI (k)))] := hl
  refine lv_iconst (v := zI 0) hx hb dX7_openOf_0 rfl ?_
  refine z_re (e2 := si (fun i => pm x i * pm x (i + k)) 0) (rfl) ?_
  refine lv_istore (lv' := [(4, .int (zI (si (fun i => pm x i * pm x (i + k)) 0))), (0, .int (zI (n))), (1, .long (lN (x))), (3, .int (zI (k)))]) hx hb dX7_openOf_1 hl (by decide) rfl (fun ls hl => ?_)
  refine lv_iconst (v := zI 0) hx hb dX7_openOf_3 rfl ?_
  refine z_re (e2 := ((0 : Nat) : Int)) (rfl) ?_
  refine lv_istore (lv' := [(5, .int (zI (((0 : Nat) : Int)))), (4, .int (zI (si (fun i => pm x i * pm x (i + k)) 0))), (0, .int (zI (n))), (1, .long (lN (x))), (3, .int (zI (k)))]) hx hb dX7_openOf_4 hl (by decide) rfl (fun ls hl => ?_)
  have lp6 : ∀ (NN : Nat) (i : Nat) (q1 : i ≤ n - k), n - k - i < NN → ∀ (ls : Array Slot), lv_has ls 6 [(0, .int (zI (n))), (1, .long (lN (x))), (3, .int (zI (k))), (4, .int (zI (si (fun i => pm x i * pm x (i + k)) i))), (5, .int (zI (i)))] → W p l e (headSpec wsX7_openOf ({ frames := 1, cells := 0, slots := 0, locals := 22 })).room s m ([.int (zI (n)), .long (lN (x)), .int (zI (k))] : List Value).toArray below meth c s.heap [] 0 0 (MQ below (vp_Si (fun r => r = zI (oS n x k))) ([.int (zI (n)), .long (lN (x)), .int (zI (k))] : List Value).toArray s 0 0 (fun _ => False)) (F0 m 6 ls []) := by
    intro NN
    induction NN with
    | zero =>
      intro i q1 hmu
      exact absurd hmu (Nat.not_lt_zero _)
    | succ NN ih6 =>
      intro i q1 hmu ls hl
      refine lv_iload hx hb dX7_openOf_6 (lv_at hl 4 rfl) ?_
      refine lv_iload_n hx hb dX7_openOf_8 rfl (lv_at hl 2 rfl) ?_
      refine z_iadd hx hb dX7_openOf_9 ?_
      refine z_re (e2 := ((i + k : Nat) : Int)) (by omega) ?_
      refine lv_iload_n hx hb dX7_openOf_10 rfl (lv_at hl 0 rfl) ?_
      refine z_icmp_ge (tgt := 40) hx hb dX7_openOf_11 (by decide) (by omega) (by omega) (fun c11 => ?_) (fun c11 => ?_)
      · refine lv_iload hx hb dX7_openOf_40 (lv_at hl 3 rfl) ?_
        exact W.iret (v := (zI (si (fun i => pm x i * pm x (i + k)) i))) hx hb hr (fun tq ht hW => ⟨_, rfl, by rw [show i = n - k by omega]; rfl, ht⟩) (fun q h => by cases h) dX7_openOf_42
      · refine lv_iload hx hb dX7_openOf_14 (lv_at hl 3 rfl) ?_
        refine lv_lload_n hx hb dX7_openOf_16 rfl (lv_at hl 1 rfl) ?_
        refine lv_iload hx hb dX7_openOf_17 (lv_at hl 4 rfl) ?_
        refine vp_callSi (va_runS (As := [.long (lN (x)), .int (zI (i))]) (rest := [.int (zI (si (fun i => pm x i * pm x (i + k)) i))]) ⟨hx, hb, hml, hown, hts⟩ (c_X7_at l x i gx (by omega)) (va_cwS 2 hts gX7_openOf_X7_at rfl rfl rfl (by decide +kernel) ⟨Nat.le_of_ble_eq_true rfl, Nat.le_of_ble_eq_true rfl⟩) ⟨fun a U g mk q => q, fun U hU hW => ⟨rfl, trivial⟩⟩ rfl rfl hl.1 rfl (lv_room (Nat.le_of_ble_eq_true rfl)) dX7_openOf_19 ⟨Nat.le_of_ble_eq_true rfl, Nat.le_of_ble_eq_true rfl⟩).run (fun r hr19 => ?_)
        obtain rfl := hr19
        refine lv_lload_n hx hb dX7_openOf_22 rfl (lv_at hl 1 rfl) ?_
        refine lv_iload hx hb dX7_openOf_23 (lv_at hl 4 rfl) ?_
        refine lv_iload_n hx hb dX7_openOf_25 rfl (lv_at hl 2 rfl) ?_
        refine z_iadd hx hb dX7_openOf_26 ?_
        refine z_re (e2 := ((i + k : Nat) : Int)) (by omega) ?_
        refine vp_callSi (va_runS (As := [.long (lN (x)), .int (zI (((i + k : Nat) : Int)))]) (rest := [.int (zI (pm (x) (i))), .int (zI (si (fun i => pm x i * pm x (i + k)) i))]) ⟨hx, hb, hml, hown, hts⟩ (c_X7_at l x (i + k) gx (by omega)) (va_cwS 2 hts gX7_openOf_X7_at rfl rfl rfl (by decide +kernel) ⟨Nat.le_of_ble_eq_true rfl, Nat.le_of_ble_eq_true rfl⟩) ⟨fun a U g mk q => q, fun U hU hW => ⟨rfl, trivial⟩⟩ rfl rfl hl.1 rfl (lv_room (Nat.le_of_ble_eq_true rfl)) dX7_openOf_27 ⟨Nat.le_of_ble_eq_true rfl, Nat.le_of_ble_eq_true rfl⟩).run (fun r hr27 => ?_)
        obtain rfl := hr27
        refine z_imul hx hb dX7_openOf_30 ?_
        refine z_iadd hx hb dX7_openOf_31 ?_
        refine z_re (e2 := si (fun i => pm x i * pm x (i + k)) (i + 1)) (rfl) ?_
        refine lv_istore (lv' := [(4, .int (zI (si (fun i => pm x i * pm x (i + k)) (i + 1)))), (0, .int (zI (n))), (1, .long (lN (x))), (3, .int (zI (k))), (5, .int (zI (i)))]) hx hb dX7_openOf_32 hl (by decide) rfl (fun ls hl => ?_)
        refine lv_iinc (v := zI (((i + 1 : Nat) : Int))) (lv' := [(5, .int (zI (((i + 1 : Nat) : Int)))), (4, .int (zI (si (fun i => pm x i * pm x (i + k)) (i + 1)))), (0, .int (zI (n))), (1, .long (lN (x))), (3, .int (zI (k)))]) hx hb dX7_openOf_34 hl (k := 4) rfl (zI_incr (by omega)) (by decide) rfl (fun ls hl => ?_)
        refine lv_goto (tgt := 6) hx hb dX7_openOf_37 (by decide) ?_
        exact ih6 (i + 1) (by omega) (by omega) _ (lv_sub hl [2, 3, 4, 1, 0] rfl)
  exact lp6 _ (0) (by omega) (Nat.lt_succ_self _) _ (lv_sub hl [2, 3, 4, 1, 0] rfl)

-- the check: roundOf
set_option maxHeartbeats 4000000 in
set_option maxRecDepth 100000 in
theorem c_X7_roundOf (l : Launch) (n x k : Nat) (gn : n ≤ 32) (gx : x < 4294967296) (gk : k ≤ 32) : Met l yX7_roundOf wsX7_roundOf ({ frames := 1, cells := 0, slots := 0, locals := 22 }) (va_Pc [.int (zI (n)), .long (lN (x)), .int (zI (k))] (fun _ => True)) (vp_Si (fun r => r = zI (rS n x k))) 0 0 (fun _ => False) := by
  refine Met.ofW (cc := cX7_roundOf) (maxL := 6) (ret := (some .int)) (by decide) rfl ?_
  intro p e s m args below meth c s₁ B hml hv
  obtain ⟨rfl, -⟩ := hv
  have hx := B.exec
  have hb := B.bytes
  have hr := B.returns
  have hts := atoms_spec (ws := wsX7_roundOf) B.pre
  have hown : s.vm.findClass RX7 = some m.cls := findClass_of_methodNamed B.named
  have hlocks := B.notSynchronized
  have hl := lv_entry ([.int (zI (n)), .long (lN (x)), .int (zI (k))]) (n := 6) (Nat.le_of_ble_eq_true rfl)
  rw [lg_entry_eq]
  generalize (lg_sl ([.int (zI (n)), .long (lN (x)), .int (zI (k))]) ++ List.replicate (6 - (lg_sl ([.int (zI (n)), .long (lN (x)), .int (zI (k))])).length) Slot.unset).toArray = ls at hl ⊢
  have hl : lv_has ls 6 [(0, .int (zI (n))), (1, .long (lN (x))), (3, .int (zI (k)))] := hl
  refine lv_iconst (v := zI 0) hx hb dX7_roundOf_0 rfl ?_
  refine z_re (e2 := si (fun i => pm x i * pm x ((i + k) % n)) 0) (rfl) ?_
  refine lv_istore (lv' := [(4, .int (zI (si (fun i => pm x i * pm x ((i + k) % n)) 0))), (0, .int (zI (n))), (1, .long (lN (x))), (3, .int (zI (k)))]) hx hb dX7_roundOf_1 hl (by decide) rfl (fun ls hl => ?_)
  refine lv_iconst (v := zI 0) hx hb dX7_roundOf_3 rfl ?_
  refine z_re (e2 := ((0 : Nat) : Int)) (rfl) ?_
  refine lv_istore (lv' := [(5, .int (zI (((0 : Nat) : Int)))), (4, .int (zI (si (fun i => pm x i * pm x ((i + k) % n)) 0))), (0, .int (zI (n))), (1, .long (lN (x))), (3, .int (zI (k)))]) hx hb dX7_roundOf_4 hl (by decide) rfl (fun ls hl => ?_)
  have lp6 : ∀ (NN : Nat) (i : Nat) (q1 : i ≤ n), n - i < NN → ∀ (ls : Array Slot), lv_has ls 6 [(0, .int (zI (n))), (1, .long (lN (x))), (3, .int (zI (k))), (4, .int (zI (si (fun i => pm x i * pm x ((i + k) % n)) i))), (5, .int (zI (i)))] → W p l e (headSpec wsX7_roundOf ({ frames := 1, cells := 0, slots := 0, locals := 22 })).room s m ([.int (zI (n)), .long (lN (x)), .int (zI (k))] : List Value).toArray below meth c s.heap [] 0 0 (MQ below (vp_Si (fun r => r = zI (rS n x k))) ([.int (zI (n)), .long (lN (x)), .int (zI (k))] : List Value).toArray s 0 0 (fun _ => False)) (F0 m 6 ls []) := by
    intro NN
    induction NN with
    | zero =>
      intro i q1 hmu
      exact absurd hmu (Nat.not_lt_zero _)
    | succ NN ih6 =>
      intro i q1 hmu ls hl
      have b1 : n > 0 → (i + k) % n < n := Nat.mod_lt (i + k)
      refine lv_iload hx hb dX7_roundOf_6 (lv_at hl 4 rfl) ?_
      refine lv_iload_n hx hb dX7_roundOf_8 rfl (lv_at hl 0 rfl) ?_
      refine z_icmp_ge (tgt := 40) hx hb dX7_roundOf_9 (by decide) (by omega) (by omega) (fun c9 => ?_) (fun c9 => ?_)
      · refine lv_iload hx hb dX7_roundOf_40 (lv_at hl 3 rfl) ?_
        exact W.iret (v := (zI (si (fun i => pm x i * pm x ((i + k) % n)) i))) hx hb hr (fun tq ht hW => ⟨_, rfl, by rw [show i = n by omega]; rfl, ht⟩) (fun q h => by cases h) dX7_roundOf_42
      · refine lv_iload hx hb dX7_roundOf_12 (lv_at hl 3 rfl) ?_
        refine lv_lload_n hx hb dX7_roundOf_14 rfl (lv_at hl 1 rfl) ?_
        refine lv_iload hx hb dX7_roundOf_15 (lv_at hl 4 rfl) ?_
        refine vp_callSi (va_runS (As := [.long (lN (x)), .int (zI (i))]) (rest := [.int (zI (si (fun i => pm x i * pm x ((i + k) % n)) i))]) ⟨hx, hb, hml, hown, hts⟩ (c_X7_at l x i gx (by omega)) (va_cwS 2 hts gX7_roundOf_X7_at rfl rfl rfl (by decide +kernel) ⟨Nat.le_of_ble_eq_true rfl, Nat.le_of_ble_eq_true rfl⟩) ⟨fun a U g mk q => q, fun U hU hW => ⟨rfl, trivial⟩⟩ rfl rfl hl.1 rfl (lv_room (Nat.le_of_ble_eq_true rfl)) dX7_roundOf_17 ⟨Nat.le_of_ble_eq_true rfl, Nat.le_of_ble_eq_true rfl⟩).run (fun r hr17 => ?_)
        obtain rfl := hr17
        refine lv_lload_n hx hb dX7_roundOf_20 rfl (lv_at hl 1 rfl) ?_
        refine lv_iload hx hb dX7_roundOf_21 (lv_at hl 4 rfl) ?_
        refine lv_iload_n hx hb dX7_roundOf_23 rfl (lv_at hl 2 rfl) ?_
        refine z_iadd hx hb dX7_roundOf_24 ?_
        refine z_re (e2 := ((i + k : Nat) : Int)) (by omega) ?_
        refine lv_iload_n hx hb dX7_roundOf_25 rfl (lv_at hl 0 rfl) ?_
        have b2 := b1 (show n > 0 by omega)
        refine z_irem hx hb (by omega) (by omega) dX7_roundOf_26 ?_
        refine z_re (e2 := (((i + k) % n : Nat) : Int)) (by rw [Int.natCast_emod]) ?_
        refine vp_callSi (va_runS (As := [.long (lN (x)), .int (zI ((((i + k) % n : Nat) : Int)))]) (rest := [.int (zI (pm (x) (i))), .int (zI (si (fun i => pm x i * pm x ((i + k) % n)) i))]) ⟨hx, hb, hml, hown, hts⟩ (c_X7_at l x ((i + k) % n) gx (by omega)) (va_cwS 2 hts gX7_roundOf_X7_at rfl rfl rfl (by decide +kernel) ⟨Nat.le_of_ble_eq_true rfl, Nat.le_of_ble_eq_true rfl⟩) ⟨fun a U g mk q => q, fun U hU hW => ⟨rfl, trivial⟩⟩ rfl rfl hl.1 rfl (lv_room (Nat.le_of_ble_eq_true rfl)) dX7_roundOf_27 ⟨Nat.le_of_ble_eq_true rfl, Nat.le_of_ble_eq_true rfl⟩).run (fun r hr27 => ?_)
        obtain rfl := hr27
        refine z_imul hx hb dX7_roundOf_30 ?_
        refine z_iadd hx hb dX7_roundOf_31 ?_
        refine z_re (e2 := si (fun i => pm x i * pm x ((i + k) % n)) (i + 1)) (rfl) ?_
        refine lv_istore (lv' := [(4, .int (zI (si (fun i => pm x i * pm x ((i + k) % n)) (i + 1)))), (0, .int (zI (n))), (1, .long (lN (x))), (3, .int (zI (k))), (5, .int (zI (i)))]) hx hb dX7_roundOf_32 hl (by decide) rfl (fun ls hl => ?_)
        refine lv_iinc (v := zI (((i + 1 : Nat) : Int))) (lv' := [(5, .int (zI (((i + 1 : Nat) : Int)))), (4, .int (zI (si (fun i => pm x i * pm x ((i + k) % n)) (i + 1)))), (0, .int (zI (n))), (1, .long (lN (x))), (3, .int (zI (k)))]) hx hb dX7_roundOf_34 hl (k := 4) rfl (zI_incr (by omega)) (by decide) rfl (fun ls hl => ?_)
        refine lv_goto (tgt := 6) hx hb dX7_roundOf_37 (by decide) ?_
        exact ih6 (i + 1) (by omega) (by omega) _ (lv_sub hl [2, 3, 4, 1, 0] rfl)
  exact lp6 _ (0) (by omega) (Nat.lt_succ_self _) _ (lv_sub hl [2, 3, 4, 1, 0] rfl)

-- the check: peakOf
set_option maxHeartbeats 4000000 in
set_option maxRecDepth 100000 in
theorem c_X7_peakOf (l : Launch) (n x : Nat) (gn : n ≤ 32) (g1 : 1 ≤ n) (gx : x < 4294967296) : Met l yX7_peakOf wsX7_peakOf ({ frames := 2, cells := 0, slots := 0, locals := 47 }) (va_Pc [.int (zI (n)), .long (lN (x))] (fun _ => True)) (vp_Si (fun r => r = zI (pkL n x n : Int))) 0 0 (fun _ => False) := by
  refine Met.ofW (cc := cX7_peakOf) (maxL := 6) (ret := (some .int)) (by decide) rfl ?_
  intro p e s m args below meth c s₁ B hml hv
  obtain ⟨rfl, -⟩ := hv
  have hx := B.exec
  have hb := B.bytes
  have hr := B.returns
  have hts := atoms_spec (ws := wsX7_peakOf) B.pre
  have hown : s.vm.findClass RX7 = some m.cls := findClass_of_methodNamed B.named
  have hlocks := B.notSynchronized
  have hl := lv_entry ([.int (zI (n)), .long (lN (x))]) (n := 6) (Nat.le_of_ble_eq_true rfl)
  rw [lg_entry_eq]
  generalize (lg_sl ([.int (zI (n)), .long (lN (x))]) ++ List.replicate (6 - (lg_sl ([.int (zI (n)), .long (lN (x))])).length) Slot.unset).toArray = ls at hl ⊢
  have hl : lv_has ls 6 [(0, .int (zI (n))), (1, .long (lN (x)))] := hl
  refine lv_iconst (v := zI 0) hx hb dX7_peakOf_0 rfl ?_
  refine z_re (e2 := ((pkL n x 1 : Nat) : Int)) (rfl) ?_
  refine lv_istore_n (lv' := [(3, .int (zI (((pkL n x 1 : Nat) : Int)))), (0, .int (zI (n))), (1, .long (lN (x)))]) hx hb dX7_peakOf_1 rfl hl (by decide) rfl (fun ls hl => ?_)
  refine lv_iconst (v := zI 1) hx hb dX7_peakOf_2 rfl ?_
  refine z_re (e2 := ((1 : Nat) : Int)) (rfl) ?_
  refine lv_istore (lv' := [(4, .int (zI (((1 : Nat) : Int)))), (3, .int (zI (((pkL n x 1 : Nat) : Int)))), (0, .int (zI (n))), (1, .long (lN (x)))]) hx hb dX7_peakOf_3 hl (by decide) rfl (fun ls hl => ?_)
  have lp5 : ∀ (NN : Nat) (k : Nat) (q1 : 1 ≤ k) (q2 : k ≤ n), n - k < NN → ∀ (ls : Array Slot), lv_has ls 6 [(0, .int (zI (n))), (1, .long (lN (x))), (3, .int (zI (((pkL n x k : Nat) : Int)))), (4, .int (zI (k)))] → W p l e (headSpec wsX7_peakOf ({ frames := 2, cells := 0, slots := 0, locals := 47 })).room s m ([.int (zI (n)), .long (lN (x))] : List Value).toArray below meth c s.heap [] 0 0 (MQ below (vp_Si (fun r => r = zI (pkL n x n : Int))) ([.int (zI (n)), .long (lN (x))] : List Value).toArray s 0 0 (fun _ => False)) (F0 m 5 ls []) := by
    intro NN
    induction NN with
    | zero =>
      intro k q1 q2 hmu
      exact absurd hmu (Nat.not_lt_zero _)
    | succ NN ih5 =>
      intro k q1 q2 hmu ls hl
      have b1 := pkL_bd n x k
      have b2 := oS_bd n x k
      have b3 := pkL_s n x q1
      refine lv_iload hx hb dX7_peakOf_5 (lv_at hl 3 rfl) ?_
      refine lv_iload_n hx hb dX7_peakOf_7 rfl (lv_at hl 0 rfl) ?_
      refine z_icmp_ge (tgt := 54) hx hb dX7_peakOf_8 (by decide) (by omega) (by omega) (fun c8 => ?_) (fun c8 => ?_)
      · refine lv_iload_n hx hb dX7_peakOf_54 rfl (lv_at hl 2 rfl) ?_
        exact W.iret (v := (zI (((pkL n x k : Nat) : Int)))) hx hb hr (fun tq ht hW => ⟨_, rfl, by rw [show k = n by omega], ht⟩) (fun q h => by cases h) dX7_peakOf_55
      · refine lv_iload_n hx hb dX7_peakOf_11 rfl (lv_at hl 0 rfl) ?_
        refine lv_lload_n hx hb dX7_peakOf_12 rfl (lv_at hl 1 rfl) ?_
        refine lv_iload hx hb dX7_peakOf_13 (lv_at hl 3 rfl) ?_
        refine vp_callSi (va_runS (As := [.int (zI (n)), .long (lN (x)), .int (zI (k))]) (rest := []) ⟨hx, hb, hml, hown, hts⟩ (c_X7_openOf l n x k gn gx (by omega)) (va_cwS 3 hts gX7_peakOf_X7_openOf rfl rfl rfl (by decide +kernel) ⟨Nat.le_of_ble_eq_true rfl, Nat.le_of_ble_eq_true rfl⟩) ⟨fun a U g mk q => q, fun U hU hW => ⟨rfl, trivial⟩⟩ rfl rfl hl.1 rfl (lv_room (Nat.le_of_ble_eq_true rfl)) dX7_peakOf_15 ⟨Nat.le_of_ble_eq_true rfl, Nat.le_of_ble_eq_true rfl⟩).run (fun r hr15 => ?_)
        obtain rfl := hr15
        refine lv_istore (lv' := [(5, .int (zI (oS (n) (x) (k)))), (0, .int (zI (n))), (1, .long (lN (x))), (3, .int (zI (((pkL n x k : Nat) : Int)))), (4, .int (zI (k)))]) hx hb dX7_peakOf_18 hl (by decide) rfl (fun ls hl => ?_)
        refine lv_iload hx hb dX7_peakOf_20 (lv_at hl 0 rfl) ?_
        refine z_if_ge (tgt := 31) hx hb dX7_peakOf_22 (by decide) (by omega) (fun c22 => ?_) (fun c22 => ?_)
        · refine lv_iload hx hb dX7_peakOf_31 (lv_at hl 0 rfl) ?_
          refine z_re (e2 := (((oS n x k).natAbs : Nat) : Int)) (by omega) ?_
          refine lv_istore (lv' := [(5, .int (zI ((((oS n x k).natAbs : Nat) : Int)))), (0, .int (zI (n))), (1, .long (lN (x))), (3, .int (zI (((pkL n x k : Nat) : Int)))), (4, .int (zI (k)))]) hx hb dX7_peakOf_33 hl (by decide) rfl (fun ls hl => ?_)
          refine lv_iload hx hb dX7_peakOf_35 (lv_at hl 0 rfl) ?_
          refine lv_iload_n hx hb dX7_peakOf_37 rfl (lv_at hl 3 rfl) ?_
          refine z_icmp_le (tgt := 46) hx hb dX7_peakOf_38 (by decide) (by omega) (by omega) (fun c38 => ?_) (fun c38 => ?_)
          · refine lv_iload_n hx hb dX7_peakOf_46 rfl (lv_at hl 3 rfl) ?_
            refine z_re (e2 := ((pkL n x (k + 1) : Nat) : Int)) (by rw [b3]; omega) ?_
            refine lv_istore_n (lv' := [(3, .int (zI (((pkL n x (k + 1) : Nat) : Int)))), (5, .int (zI ((((oS n x k).natAbs : Nat) : Int)))), (0, .int (zI (n))), (1, .long (lN (x))), (4, .int (zI (k)))]) hx hb dX7_peakOf_47 rfl hl (by decide) rfl (fun ls hl => ?_)
            refine lv_iinc (v := zI (((k + 1 : Nat) : Int))) (lv' := [(4, .int (zI (((k + 1 : Nat) : Int)))), (3, .int (zI (((pkL n x (k + 1) : Nat) : Int)))), (5, .int (zI ((((oS n x k).natAbs : Nat) : Int)))), (0, .int (zI (n))), (1, .long (lN (x)))]) hx hb dX7_peakOf_48 hl (k := 4) rfl (zI_incr (by omega)) (by decide) rfl (fun ls hl => ?_)
            refine lv_goto (tgt := 5) hx hb dX7_peakOf_51 (by decide) ?_
            exact ih5 (k + 1) (by omega) (by omega) (by omega) _ (lv_sub hl [3, 4, 1, 0] rfl)
          · refine lv_iload hx hb dX7_peakOf_41 (lv_at hl 0 rfl) ?_
            refine z_re (e2 := ((pkL n x (k + 1) : Nat) : Int)) (by rw [b3]; omega) ?_
            refine lv_goto (tgt := 47) hx hb dX7_peakOf_43 (by decide) ?_
            refine lv_istore_n (lv' := [(3, .int (zI (((pkL n x (k + 1) : Nat) : Int)))), (5, .int (zI ((((oS n x k).natAbs : Nat) : Int)))), (0, .int (zI (n))), (1, .long (lN (x))), (4, .int (zI (k)))]) hx hb dX7_peakOf_47 rfl hl (by decide) rfl (fun ls hl => ?_)
            refine lv_iinc (v := zI (((k + 1 : Nat) : Int))) (lv' := [(4, .int (zI (((k + 1 : Nat) : Int)))), (3, .int (zI (((pkL n x (k + 1) : Nat) : Int)))), (5, .int (zI ((((oS n x k).natAbs : Nat) : Int)))), (0, .int (zI (n))), (1, .long (lN (x)))]) hx hb dX7_peakOf_48 hl (k := 4) rfl (zI_incr (by omega)) (by decide) rfl (fun ls hl => ?_)
            refine lv_goto (tgt := 5) hx hb dX7_peakOf_51 (by decide) ?_
            exact ih5 (k + 1) (by omega) (by omega) (by omega) _ (lv_sub hl [3, 4, 1, 0] rfl)
        · refine lv_iload hx hb dX7_peakOf_25 (lv_at hl 0 rfl) ?_
          refine z_ineg hx hb dX7_peakOf_27 ?_
          refine z_re (e2 := (((oS n x k).natAbs : Nat) : Int)) (by omega) ?_
          refine lv_goto (tgt := 33) hx hb dX7_peakOf_28 (by decide) ?_
          refine lv_istore (lv' := [(5, .int (zI ((((oS n x k).natAbs : Nat) : Int)))), (0, .int (zI (n))), (1, .long (lN (x))), (3, .int (zI (((pkL n x k : Nat) : Int)))), (4, .int (zI (k)))]) hx hb dX7_peakOf_33 hl (by decide) rfl (fun ls hl => ?_)
          refine lv_iload hx hb dX7_peakOf_35 (lv_at hl 0 rfl) ?_
          refine lv_iload_n hx hb dX7_peakOf_37 rfl (lv_at hl 3 rfl) ?_
          refine z_icmp_le (tgt := 46) hx hb dX7_peakOf_38 (by decide) (by omega) (by omega) (fun c38 => ?_) (fun c38 => ?_)
          · refine lv_iload_n hx hb dX7_peakOf_46 rfl (lv_at hl 3 rfl) ?_
            refine z_re (e2 := ((pkL n x (k + 1) : Nat) : Int)) (by rw [b3]; omega) ?_
            refine lv_istore_n (lv' := [(3, .int (zI (((pkL n x (k + 1) : Nat) : Int)))), (5, .int (zI ((((oS n x k).natAbs : Nat) : Int)))), (0, .int (zI (n))), (1, .long (lN (x))), (4, .int (zI (k)))]) hx hb dX7_peakOf_47 rfl hl (by decide) rfl (fun ls hl => ?_)
            refine lv_iinc (v := zI (((k + 1 : Nat) : Int))) (lv' := [(4, .int (zI (((k + 1 : Nat) : Int)))), (3, .int (zI (((pkL n x (k + 1) : Nat) : Int)))), (5, .int (zI ((((oS n x k).natAbs : Nat) : Int)))), (0, .int (zI (n))), (1, .long (lN (x)))]) hx hb dX7_peakOf_48 hl (k := 4) rfl (zI_incr (by omega)) (by decide) rfl (fun ls hl => ?_)
            refine lv_goto (tgt := 5) hx hb dX7_peakOf_51 (by decide) ?_
            exact ih5 (k + 1) (by omega) (by omega) (by omega) _ (lv_sub hl [3, 4, 1, 0] rfl)
          · refine lv_iload hx hb dX7_peakOf_41 (lv_at hl 0 rfl) ?_
            refine z_re (e2 := ((pkL n x (k + 1) : Nat) : Int)) (by rw [b3]; omega) ?_
            refine lv_goto (tgt := 47) hx hb dX7_peakOf_43 (by decide) ?_
            refine lv_istore_n (lv' := [(3, .int (zI (((pkL n x (k + 1) : Nat) : Int)))), (5, .int (zI ((((oS n x k).natAbs : Nat) : Int)))), (0, .int (zI (n))), (1, .long (lN (x))), (4, .int (zI (k)))]) hx hb dX7_peakOf_47 rfl hl (by decide) rfl (fun ls hl => ?_)
            refine lv_iinc (v := zI (((k + 1 : Nat) : Int))) (lv' := [(4, .int (zI (((k + 1 : Nat) : Int)))), (3, .int (zI (((pkL n x (k + 1) : Nat) : Int)))), (5, .int (zI ((((oS n x k).natAbs : Nat) : Int)))), (0, .int (zI (n))), (1, .long (lN (x)))]) hx hb dX7_peakOf_48 hl (k := 4) rfl (zI_incr (by omega)) (by decide) rfl (fun ls hl => ?_)
            refine lv_goto (tgt := 5) hx hb dX7_peakOf_51 (by decide) ?_
            exact ih5 (k + 1) (by omega) (by omega) (by omega) _ (lv_sub hl [3, 4, 1, 0] rfl)
  exact lp5 _ (1) (by omega) (by omega) (Nat.lt_succ_self _) _ (lv_sub hl [2, 3, 1, 0] rfl)

-- the check: energyOf
set_option maxHeartbeats 4000000 in
set_option maxRecDepth 100000 in
theorem c_X7_energyOf (l : Launch) (n x : Nat) (gn : n ≤ 32) (g1 : 1 ≤ n) (gx : x < 4294967296) : Met l yX7_energyOf wsX7_energyOf ({ frames := 2, cells := 0, slots := 0, locals := 47 }) (va_Pc [.int (zI (n)), .long (lN (x))] (fun _ => True)) (vp_Si (fun r => r = zI (enL n x n))) 0 0 (fun _ => False) := by
  refine Met.ofW (cc := cX7_energyOf) (maxL := 6) (ret := (some .int)) (by decide) rfl ?_
  intro p e s m args below meth c s₁ B hml hv
  obtain ⟨rfl, -⟩ := hv
  have hx := B.exec
  have hb := B.bytes
  have hr := B.returns
  have hts := atoms_spec (ws := wsX7_energyOf) B.pre
  have hown : s.vm.findClass RX7 = some m.cls := findClass_of_methodNamed B.named
  have hlocks := B.notSynchronized
  have hl := lv_entry ([.int (zI (n)), .long (lN (x))]) (n := 6) (Nat.le_of_ble_eq_true rfl)
  rw [lg_entry_eq]
  generalize (lg_sl ([.int (zI (n)), .long (lN (x))]) ++ List.replicate (6 - (lg_sl ([.int (zI (n)), .long (lN (x))])).length) Slot.unset).toArray = ls at hl ⊢
  have hl : lv_has ls 6 [(0, .int (zI (n))), (1, .long (lN (x)))] := hl
  refine lv_iconst (v := zI 0) hx hb dX7_energyOf_0 rfl ?_
  refine z_re (e2 := enL n x 1) (rfl) ?_
  refine lv_istore_n (lv' := [(3, .int (zI (enL n x 1))), (0, .int (zI (n))), (1, .long (lN (x)))]) hx hb dX7_energyOf_1 rfl hl (by decide) rfl (fun ls hl => ?_)
  refine lv_iconst (v := zI 1) hx hb dX7_energyOf_2 rfl ?_
  refine z_re (e2 := ((1 : Nat) : Int)) (rfl) ?_
  refine lv_istore (lv' := [(4, .int (zI (((1 : Nat) : Int)))), (3, .int (zI (enL n x 1))), (0, .int (zI (n))), (1, .long (lN (x)))]) hx hb dX7_energyOf_3 hl (by decide) rfl (fun ls hl => ?_)
  have lp5 : ∀ (NN : Nat) (k : Nat) (q1 : 1 ≤ k) (q2 : k ≤ n), n - k < NN → ∀ (ls : Array Slot), lv_has ls 6 [(0, .int (zI (n))), (1, .long (lN (x))), (3, .int (zI (enL n x k))), (4, .int (zI (k)))] → W p l e (headSpec wsX7_energyOf ({ frames := 2, cells := 0, slots := 0, locals := 47 })).room s m ([.int (zI (n)), .long (lN (x))] : List Value).toArray below meth c s.heap [] 0 0 (MQ below (vp_Si (fun r => r = zI (enL n x n))) ([.int (zI (n)), .long (lN (x))] : List Value).toArray s 0 0 (fun _ => False)) (F0 m 5 ls []) := by
    intro NN
    induction NN with
    | zero =>
      intro k q1 q2 hmu
      exact absurd hmu (Nat.not_lt_zero _)
    | succ NN ih5 =>
      intro k q1 q2 hmu ls hl
      refine lv_iload hx hb dX7_energyOf_5 (lv_at hl 3 rfl) ?_
      refine lv_iload_n hx hb dX7_energyOf_7 rfl (lv_at hl 0 rfl) ?_
      refine z_icmp_ge (tgt := 34) hx hb dX7_energyOf_8 (by decide) (by omega) (by omega) (fun c8 => ?_) (fun c8 => ?_)
      · refine lv_iload_n hx hb dX7_energyOf_34 rfl (lv_at hl 2 rfl) ?_
        exact W.iret (v := (zI (enL n x k))) hx hb hr (fun tq ht hW => ⟨_, rfl, by rw [show k = n by omega], ht⟩) (fun q h => by cases h) dX7_energyOf_35
      · refine lv_iload_n hx hb dX7_energyOf_11 rfl (lv_at hl 0 rfl) ?_
        refine lv_lload_n hx hb dX7_energyOf_12 rfl (lv_at hl 1 rfl) ?_
        refine lv_iload hx hb dX7_energyOf_13 (lv_at hl 3 rfl) ?_
        refine vp_callSi (va_runS (As := [.int (zI (n)), .long (lN (x)), .int (zI (k))]) (rest := []) ⟨hx, hb, hml, hown, hts⟩ (c_X7_openOf l n x k gn gx (by omega)) (va_cwS 3 hts gX7_energyOf_X7_openOf rfl rfl rfl (by decide +kernel) ⟨Nat.le_of_ble_eq_true rfl, Nat.le_of_ble_eq_true rfl⟩) ⟨fun a U g mk q => q, fun U hU hW => ⟨rfl, trivial⟩⟩ rfl rfl hl.1 rfl (lv_room (Nat.le_of_ble_eq_true rfl)) dX7_energyOf_15 ⟨Nat.le_of_ble_eq_true rfl, Nat.le_of_ble_eq_true rfl⟩).run (fun r hr15 => ?_)
        obtain rfl := hr15
        refine lv_istore (lv' := [(5, .int (zI (oS (n) (x) (k)))), (0, .int (zI (n))), (1, .long (lN (x))), (3, .int (zI (enL n x k))), (4, .int (zI (k)))]) hx hb dX7_energyOf_18 hl (by decide) rfl (fun ls hl => ?_)
        refine lv_iload_n hx hb dX7_energyOf_20 rfl (lv_at hl 3 rfl) ?_
        refine lv_iload hx hb dX7_energyOf_21 (lv_at hl 0 rfl) ?_
        refine lv_iload hx hb dX7_energyOf_23 (lv_at hl 0 rfl) ?_
        refine z_imul hx hb dX7_energyOf_25 ?_
        refine z_iadd hx hb dX7_energyOf_26 ?_
        refine z_re (e2 := enL n x (k + 1)) (by rw [enL_s n x q1]) ?_
        refine lv_istore_n (lv' := [(3, .int (zI (enL n x (k + 1)))), (5, .int (zI (oS (n) (x) (k)))), (0, .int (zI (n))), (1, .long (lN (x))), (4, .int (zI (k)))]) hx hb dX7_energyOf_27 rfl hl (by decide) rfl (fun ls hl => ?_)
        refine lv_iinc (v := zI (((k + 1 : Nat) : Int))) (lv' := [(4, .int (zI (((k + 1 : Nat) : Int)))), (3, .int (zI (enL n x (k + 1)))), (5, .int (zI (oS (n) (x) (k)))), (0, .int (zI (n))), (1, .long (lN (x)))]) hx hb dX7_energyOf_28 hl (k := 4) rfl (zI_incr (by omega)) (by decide) rfl (fun ls hl => ?_)
        refine lv_goto (tgt := 5) hx hb dX7_energyOf_31 (by decide) ?_
        exact ih5 (k + 1) (by omega) (by omega) (by omega) _ (lv_sub hl [3, 4, 1, 0] rfl)
  exact lp5 _ (1) (by omega) (by omega) (Nat.lt_succ_self _) _ (lv_sub hl [2, 3, 1, 0] rfl)

-- the check: turned
set_option maxHeartbeats 4000000 in
set_option maxRecDepth 100000 in
theorem c_X7_turned (l : Launch) (n x w : Nat) (gn : n ≤ 32) (gx : x < 4294967296) (gw : w < 3) : Met l yX7_turned wsX7_turned ({ frames := 1, cells := 0, slots := 0, locals := 22 }) (va_Pc [.int (zI (n)), .long (lN (x)), .int (zI (w))] (fun _ => True)) (vp_Sl (fun r => r = lN (trn n x w))) 0 0 (fun _ => False) := by
  refine Met.ofW (cc := cX7_turned) (maxL := 9) (ret := (some .long)) (by decide) rfl ?_
  intro p e s m args below meth c s₁ B hml hv
  obtain ⟨rfl, -⟩ := hv
  have hx := B.exec
  have hb := B.bytes
  have hr := B.returns
  have hts := atoms_spec (ws := wsX7_turned) B.pre
  have hown : s.vm.findClass RX7 = some m.cls := findClass_of_methodNamed B.named
  have hlocks := B.notSynchronized
  have hl := lv_entry ([.int (zI (n)), .long (lN (x)), .int (zI (w))]) (n := 9) (Nat.le_of_ble_eq_true rfl)
  rw [lg_entry_eq]
  generalize (lg_sl ([.int (zI (n)), .long (lN (x)), .int (zI (w))]) ++ List.replicate (9 - (lg_sl ([.int (zI (n)), .long (lN (x)), .int (zI (w))])).length) Slot.unset).toArray = ls at hl ⊢
  have hl : lv_has ls 9 [(0, .int (zI (n))), (1, .long (lN (x))), (3, .int (zI (w)))] := hl
  refine lv_lconst (v := lN 0) hx hb dX7_turned_0 rfl ?_
  refine n_re (e2 := ob (tf n x (decide (w = 0)) (decide (w = 1)) (decide (w = 2))) 0) (rfl) ?_
  refine lv_lstore (lv' := [(4, .long (lN (ob (tf n x (decide (w = 0)) (decide (w = 1)) (decide (w = 2))) 0))), (0, .int (zI (n))), (1, .long (lN (x))), (3, .int (zI (w)))]) hx hb dX7_turned_1 hl (by decide) rfl (fun ls hl => ?_)
  refine lv_iconst (v := zI 0) hx hb dX7_turned_3 rfl ?_
  refine z_re (e2 := ((0 : Nat) : Int)) (rfl) ?_
  refine lv_istore (lv' := [(6, .int (zI (((0 : Nat) : Int)))), (4, .long (lN (ob (tf n x (decide (w = 0)) (decide (w = 1)) (decide (w = 2))) 0))), (0, .int (zI (n))), (1, .long (lN (x))), (3, .int (zI (w)))]) hx hb dX7_turned_4 hl (by decide) rfl (fun ls hl => ?_)
  have lp6 : ∀ (NN : Nat) (i : Nat) (q1 : i ≤ n), n - i < NN → ∀ (ls : Array Slot), lv_has ls 9 [(0, .int (zI (n))), (1, .long (lN (x))), (3, .int (zI (w))), (4, .long (lN (ob (tf n x (decide (w = 0)) (decide (w = 1)) (decide (w = 2))) i))), (6, .int (zI (i)))] → W p l e (headSpec wsX7_turned ({ frames := 1, cells := 0, slots := 0, locals := 22 })).room s m ([.int (zI (n)), .long (lN (x)), .int (zI (w))] : List Value).toArray below meth c s.heap [] 0 0 (MQ below (vp_Sl (fun r => r = lN (trn n x w))) ([.int (zI (n)), .long (lN (x)), .int (zI (w))] : List Value).toArray s 0 0 (fun _ => False)) (F0 m 6 ls []) := by
    intro NN
    induction NN with
    | zero =>
      intro i q1 hmu
      exact absurd hmu (Nat.not_lt_zero _)
    | succ NN ih6 =>
      intro i q1 hmu ls hl
      have b2 := trI_lt (n := n) (w := w) (i := i)
      have b3 := sg_or (tf n x (decide (w = 0)) (decide (w = 1)) (decide (w = 2)) i)
      have b4 := pm_or x (trI n w i)
      refine lv_iload hx hb dX7_turned_6 (lv_at hl 4 rfl) ?_
      refine lv_iload_n hx hb dX7_turned_8 rfl (lv_at hl 0 rfl) ?_
      refine z_icmp_ge (tgt := 89) hx hb dX7_turned_9 (by decide) (by omega) (by omega) (fun c9 => ?_) (fun c9 => ?_)
      · refine lv_lload hx hb dX7_turned_89 (lv_at hl 3 rfl) ?_
        exact W.lret (v := (lN (ob (tf n x (decide (w = 0)) (decide (w = 1)) (decide (w = 2))) i))) hx hb hr (fun tq ht hW => ⟨_, rfl, by rw [show i = n by omega]; rfl, ht⟩) (fun q h => by cases h) dX7_turned_91
      · refine lv_iload_n hx hb dX7_turned_12 rfl (lv_at hl 2 rfl) ?_
        refine z_if_ne (tgt := 25) hx hb dX7_turned_13 (by decide) (by omega) (fun c13 => ?_) (fun c13 => ?_)
        · refine lv_iload hx hb dX7_turned_25 (lv_at hl 4 rfl) ?_
          refine z_re (e2 := ((trI n w i : Nat) : Int)) (trI_1 (by omega)) ?_
          refine lv_istore (lv' := [(7, .int (zI (((trI n w i : Nat) : Int)))), (0, .int (zI (n))), (1, .long (lN (x))), (3, .int (zI (w))), (4, .long (lN (ob (tf n x (decide (w = 0)) (decide (w = 1)) (decide (w = 2))) i))), (6, .int (zI (i)))]) hx hb dX7_turned_27 hl (by decide) rfl (fun ls hl => ?_)
          refine lv_lload_n hx hb dX7_turned_29 rfl (lv_at hl 2 rfl) ?_
          have b5 := b2 (by omega)
          refine lv_iload hx hb dX7_turned_30 (lv_at hl 0 rfl) ?_
          refine vp_callSi (va_runS (As := [.long (lN (x)), .int (zI (((trI n w i : Nat) : Int)))]) (rest := []) ⟨hx, hb, hml, hown, hts⟩ (c_X7_at l x (trI n w i) gx (by omega)) (va_cwS 2 hts gX7_turned_X7_at rfl rfl rfl (by decide +kernel) ⟨Nat.le_of_ble_eq_true rfl, Nat.le_of_ble_eq_true rfl⟩) ⟨fun a U g mk q => q, fun U hU hW => ⟨rfl, trivial⟩⟩ rfl rfl hl.1 rfl (lv_room (Nat.le_of_ble_eq_true rfl)) dX7_turned_32 ⟨Nat.le_of_ble_eq_true rfl, Nat.le_of_ble_eq_true rfl⟩).run (fun r hr32 => ?_)
          obtain rfl := hr32
          refine lv_istore (lv' := [(8, .int (zI (pm (x) (trI n w i)))), (7, .int (zI (((trI n w i : Nat) : Int)))), (0, .int (zI (n))), (1, .long (lN (x))), (3, .int (zI (w))), (4, .long (lN (ob (tf n x (decide (w = 0)) (decide (w = 1)) (decide (w = 2))) i))), (6, .int (zI (i)))]) hx hb dX7_turned_35 hl (by decide) rfl (fun ls hl => ?_)
          refine lv_iload_n hx hb dX7_turned_37 rfl (lv_at hl 4 rfl) ?_
          refine lv_iconst (v := zI 1) hx hb dX7_turned_38 rfl ?_
          refine z_icmp_eq (tgt := 55) hx hb dX7_turned_39 (by decide) (by omega) (by omega) (fun c39 => ?_) (fun c39 => ?_)
          · refine lv_iload hx hb dX7_turned_55 (lv_at hl 0 rfl) ?_
            refine z_ineg hx hb dX7_turned_57 ?_
            refine z_re (e2 := sg (tf n x (decide (w = 0)) (decide (w = 1)) (decide (w = 2)) i)) (tr_neg (by omega)) ?_
            refine lv_goto (tgt := 63) hx hb dX7_turned_58 (by decide) ?_
            refine lv_istore (lv' := [(8, .int (zI (sg (tf n x (decide (w = 0)) (decide (w = 1)) (decide (w = 2)) i)))), (7, .int (zI (((trI n w i : Nat) : Int)))), (0, .int (zI (n))), (1, .long (lN (x))), (3, .int (zI (w))), (4, .long (lN (ob (tf n x (decide (w = 0)) (decide (w = 1)) (decide (w = 2))) i))), (6, .int (zI (i)))]) hx hb dX7_turned_63 hl (by decide) rfl (fun ls hl => ?_)
            refine lv_lload hx hb dX7_turned_65 (lv_at hl 5 rfl) ?_
            refine lv_iload hx hb dX7_turned_67 (lv_at hl 0 rfl) ?_
            refine z_if_ge (tgt := 79) hx hb dX7_turned_69 (by decide) (by omega) (fun c69 => ?_) (fun c69 => ?_)
            · refine lv_lconst (v := lN 0) hx hb dX7_turned_79 rfl ?_
              refine n_lor hx hb dX7_turned_80 ?_
              refine n_re (e2 := ob (tf n x (decide (w = 0)) (decide (w = 1)) (decide (w = 2))) (i + 1)) (ob_0 c69) ?_
              refine lv_lstore (lv' := [(4, .long (lN (ob (tf n x (decide (w = 0)) (decide (w = 1)) (decide (w = 2))) (i + 1)))), (8, .int (zI (sg (tf n x (decide (w = 0)) (decide (w = 1)) (decide (w = 2)) i)))), (7, .int (zI (((trI n w i : Nat) : Int)))), (0, .int (zI (n))), (1, .long (lN (x))), (3, .int (zI (w))), (6, .int (zI (i)))]) hx hb dX7_turned_81 hl (by decide) rfl (fun ls hl => ?_)
              refine lv_iinc (v := zI (((i + 1 : Nat) : Int))) (lv' := [(6, .int (zI (((i + 1 : Nat) : Int)))), (4, .long (lN (ob (tf n x (decide (w = 0)) (decide (w = 1)) (decide (w = 2))) (i + 1)))), (8, .int (zI (sg (tf n x (decide (w = 0)) (decide (w = 1)) (decide (w = 2)) i)))), (7, .int (zI (((trI n w i : Nat) : Int)))), (0, .int (zI (n))), (1, .long (lN (x))), (3, .int (zI (w)))]) hx hb dX7_turned_83 hl (k := 6) rfl (zI_incr (by omega)) (by decide) rfl (fun ls hl => ?_)
              refine lv_goto (tgt := 6) hx hb dX7_turned_86 (by decide) ?_
              exact ih6 (i + 1) (by omega) (by omega) _ (lv_sub hl [4, 5, 6, 1, 0] rfl)
            · refine lv_lconst (v := lN 1) hx hb dX7_turned_72 rfl ?_
              refine lv_iload hx hb dX7_turned_73 (lv_at hl 6 rfl) ?_
              refine n_lshl hx hb (q := i) (by omega) dX7_turned_75 ?_
              refine lv_goto (tgt := 80) hx hb dX7_turned_76 (by decide) ?_
              refine n_lor hx hb dX7_turned_80 ?_
              refine n_re (e2 := ob (tf n x (decide (w = 0)) (decide (w = 1)) (decide (w = 2))) (i + 1)) (ob_1 c69) ?_
              refine lv_lstore (lv' := [(4, .long (lN (ob (tf n x (decide (w = 0)) (decide (w = 1)) (decide (w = 2))) (i + 1)))), (8, .int (zI (sg (tf n x (decide (w = 0)) (decide (w = 1)) (decide (w = 2)) i)))), (7, .int (zI (((trI n w i : Nat) : Int)))), (0, .int (zI (n))), (1, .long (lN (x))), (3, .int (zI (w))), (6, .int (zI (i)))]) hx hb dX7_turned_81 hl (by decide) rfl (fun ls hl => ?_)
              refine lv_iinc (v := zI (((i + 1 : Nat) : Int))) (lv' := [(6, .int (zI (((i + 1 : Nat) : Int)))), (4, .long (lN (ob (tf n x (decide (w = 0)) (decide (w = 1)) (decide (w = 2))) (i + 1)))), (8, .int (zI (sg (tf n x (decide (w = 0)) (decide (w = 1)) (decide (w = 2)) i)))), (7, .int (zI (((trI n w i : Nat) : Int)))), (0, .int (zI (n))), (1, .long (lN (x))), (3, .int (zI (w)))]) hx hb dX7_turned_83 hl (k := 6) rfl (zI_incr (by omega)) (by decide) rfl (fun ls hl => ?_)
              refine lv_goto (tgt := 6) hx hb dX7_turned_86 (by decide) ?_
              exact ih6 (i + 1) (by omega) (by omega) _ (lv_sub hl [4, 5, 6, 1, 0] rfl)
          · refine lv_iload_n hx hb dX7_turned_42 rfl (lv_at hl 4 rfl) ?_
            refine lv_iconst (v := zI 2) hx hb dX7_turned_43 rfl ?_
            refine z_icmp_ne (tgt := 61) hx hb dX7_turned_44 (by decide) (by omega) (by omega) (fun c44 => ?_) (fun c44 => ?_)
            · refine lv_iload hx hb dX7_turned_61 (lv_at hl 0 rfl) ?_
              refine z_re (e2 := sg (tf n x (decide (w = 0)) (decide (w = 1)) (decide (w = 2)) i)) (tr_pos gw (by omega)) ?_
              refine lv_istore (lv' := [(8, .int (zI (sg (tf n x (decide (w = 0)) (decide (w = 1)) (decide (w = 2)) i)))), (7, .int (zI (((trI n w i : Nat) : Int)))), (0, .int (zI (n))), (1, .long (lN (x))), (3, .int (zI (w))), (4, .long (lN (ob (tf n x (decide (w = 0)) (decide (w = 1)) (decide (w = 2))) i))), (6, .int (zI (i)))]) hx hb dX7_turned_63 hl (by decide) rfl (fun ls hl => ?_)
              refine lv_lload hx hb dX7_turned_65 (lv_at hl 5 rfl) ?_
              refine lv_iload hx hb dX7_turned_67 (lv_at hl 0 rfl) ?_
              refine z_if_ge (tgt := 79) hx hb dX7_turned_69 (by decide) (by omega) (fun c69 => ?_) (fun c69 => ?_)
              · refine lv_lconst (v := lN 0) hx hb dX7_turned_79 rfl ?_
                refine n_lor hx hb dX7_turned_80 ?_
                refine n_re (e2 := ob (tf n x (decide (w = 0)) (decide (w = 1)) (decide (w = 2))) (i + 1)) (ob_0 c69) ?_
                refine lv_lstore (lv' := [(4, .long (lN (ob (tf n x (decide (w = 0)) (decide (w = 1)) (decide (w = 2))) (i + 1)))), (8, .int (zI (sg (tf n x (decide (w = 0)) (decide (w = 1)) (decide (w = 2)) i)))), (7, .int (zI (((trI n w i : Nat) : Int)))), (0, .int (zI (n))), (1, .long (lN (x))), (3, .int (zI (w))), (6, .int (zI (i)))]) hx hb dX7_turned_81 hl (by decide) rfl (fun ls hl => ?_)
                refine lv_iinc (v := zI (((i + 1 : Nat) : Int))) (lv' := [(6, .int (zI (((i + 1 : Nat) : Int)))), (4, .long (lN (ob (tf n x (decide (w = 0)) (decide (w = 1)) (decide (w = 2))) (i + 1)))), (8, .int (zI (sg (tf n x (decide (w = 0)) (decide (w = 1)) (decide (w = 2)) i)))), (7, .int (zI (((trI n w i : Nat) : Int)))), (0, .int (zI (n))), (1, .long (lN (x))), (3, .int (zI (w)))]) hx hb dX7_turned_83 hl (k := 6) rfl (zI_incr (by omega)) (by decide) rfl (fun ls hl => ?_)
                refine lv_goto (tgt := 6) hx hb dX7_turned_86 (by decide) ?_
                exact ih6 (i + 1) (by omega) (by omega) _ (lv_sub hl [4, 5, 6, 1, 0] rfl)
              · refine lv_lconst (v := lN 1) hx hb dX7_turned_72 rfl ?_
                refine lv_iload hx hb dX7_turned_73 (lv_at hl 6 rfl) ?_
                refine n_lshl hx hb (q := i) (by omega) dX7_turned_75 ?_
                refine lv_goto (tgt := 80) hx hb dX7_turned_76 (by decide) ?_
                refine n_lor hx hb dX7_turned_80 ?_
                refine n_re (e2 := ob (tf n x (decide (w = 0)) (decide (w = 1)) (decide (w = 2))) (i + 1)) (ob_1 c69) ?_
                refine lv_lstore (lv' := [(4, .long (lN (ob (tf n x (decide (w = 0)) (decide (w = 1)) (decide (w = 2))) (i + 1)))), (8, .int (zI (sg (tf n x (decide (w = 0)) (decide (w = 1)) (decide (w = 2)) i)))), (7, .int (zI (((trI n w i : Nat) : Int)))), (0, .int (zI (n))), (1, .long (lN (x))), (3, .int (zI (w))), (6, .int (zI (i)))]) hx hb dX7_turned_81 hl (by decide) rfl (fun ls hl => ?_)
                refine lv_iinc (v := zI (((i + 1 : Nat) : Int))) (lv' := [(6, .int (zI (((i + 1 : Nat) : Int)))), (4, .long (lN (ob (tf n x (decide (w = 0)) (decide (w = 1)) (decide (w = 2))) (i + 1)))), (8, .int (zI (sg (tf n x (decide (w = 0)) (decide (w = 1)) (decide (w = 2)) i)))), (7, .int (zI (((trI n w i : Nat) : Int)))), (0, .int (zI (n))), (1, .long (lN (x))), (3, .int (zI (w)))]) hx hb dX7_turned_83 hl (k := 6) rfl (zI_incr (by omega)) (by decide) rfl (fun ls hl => ?_)
                refine lv_goto (tgt := 6) hx hb dX7_turned_86 (by decide) ?_
                exact ih6 (i + 1) (by omega) (by omega) _ (lv_sub hl [4, 5, 6, 1, 0] rfl)
            · refine lv_iload hx hb dX7_turned_47 (lv_at hl 6 rfl) ?_
              refine lv_iconst (v := zI 2) hx hb dX7_turned_49 rfl ?_
              refine z_irem hx hb (by omega) (by omega) dX7_turned_50 ?_
              refine z_re (e2 := ((i % 2 : Nat) : Int)) (by omega) ?_
              refine lv_iconst (v := zI 1) hx hb dX7_turned_51 rfl ?_
              refine z_icmp_ne (tgt := 61) hx hb dX7_turned_52 (by decide) (by omega) (by omega) (fun c52 => ?_) (fun c52 => ?_)
              · refine lv_iload hx hb dX7_turned_61 (lv_at hl 0 rfl) ?_
                refine z_re (e2 := sg (tf n x (decide (w = 0)) (decide (w = 1)) (decide (w = 2)) i)) (tr_pos gw (by omega)) ?_
                refine lv_istore (lv' := [(8, .int (zI (sg (tf n x (decide (w = 0)) (decide (w = 1)) (decide (w = 2)) i)))), (7, .int (zI (((trI n w i : Nat) : Int)))), (0, .int (zI (n))), (1, .long (lN (x))), (3, .int (zI (w))), (4, .long (lN (ob (tf n x (decide (w = 0)) (decide (w = 1)) (decide (w = 2))) i))), (6, .int (zI (i)))]) hx hb dX7_turned_63 hl (by decide) rfl (fun ls hl => ?_)
                refine lv_lload hx hb dX7_turned_65 (lv_at hl 5 rfl) ?_
                refine lv_iload hx hb dX7_turned_67 (lv_at hl 0 rfl) ?_
                refine z_if_ge (tgt := 79) hx hb dX7_turned_69 (by decide) (by omega) (fun c69 => ?_) (fun c69 => ?_)
                · refine lv_lconst (v := lN 0) hx hb dX7_turned_79 rfl ?_
                  refine n_lor hx hb dX7_turned_80 ?_
                  refine n_re (e2 := ob (tf n x (decide (w = 0)) (decide (w = 1)) (decide (w = 2))) (i + 1)) (ob_0 c69) ?_
                  refine lv_lstore (lv' := [(4, .long (lN (ob (tf n x (decide (w = 0)) (decide (w = 1)) (decide (w = 2))) (i + 1)))), (8, .int (zI (sg (tf n x (decide (w = 0)) (decide (w = 1)) (decide (w = 2)) i)))), (7, .int (zI (((trI n w i : Nat) : Int)))), (0, .int (zI (n))), (1, .long (lN (x))), (3, .int (zI (w))), (6, .int (zI (i)))]) hx hb dX7_turned_81 hl (by decide) rfl (fun ls hl => ?_)
                  refine lv_iinc (v := zI (((i + 1 : Nat) : Int))) (lv' := [(6, .int (zI (((i + 1 : Nat) : Int)))), (4, .long (lN (ob (tf n x (decide (w = 0)) (decide (w = 1)) (decide (w = 2))) (i + 1)))), (8, .int (zI (sg (tf n x (decide (w = 0)) (decide (w = 1)) (decide (w = 2)) i)))), (7, .int (zI (((trI n w i : Nat) : Int)))), (0, .int (zI (n))), (1, .long (lN (x))), (3, .int (zI (w)))]) hx hb dX7_turned_83 hl (k := 6) rfl (zI_incr (by omega)) (by decide) rfl (fun ls hl => ?_)
                  refine lv_goto (tgt := 6) hx hb dX7_turned_86 (by decide) ?_
                  exact ih6 (i + 1) (by omega) (by omega) _ (lv_sub hl [4, 5, 6, 1, 0] rfl)
                · refine lv_lconst (v := lN 1) hx hb dX7_turned_72 rfl ?_
                  refine lv_iload hx hb dX7_turned_73 (lv_at hl 6 rfl) ?_
                  refine n_lshl hx hb (q := i) (by omega) dX7_turned_75 ?_
                  refine lv_goto (tgt := 80) hx hb dX7_turned_76 (by decide) ?_
                  refine n_lor hx hb dX7_turned_80 ?_
                  refine n_re (e2 := ob (tf n x (decide (w = 0)) (decide (w = 1)) (decide (w = 2))) (i + 1)) (ob_1 c69) ?_
                  refine lv_lstore (lv' := [(4, .long (lN (ob (tf n x (decide (w = 0)) (decide (w = 1)) (decide (w = 2))) (i + 1)))), (8, .int (zI (sg (tf n x (decide (w = 0)) (decide (w = 1)) (decide (w = 2)) i)))), (7, .int (zI (((trI n w i : Nat) : Int)))), (0, .int (zI (n))), (1, .long (lN (x))), (3, .int (zI (w))), (6, .int (zI (i)))]) hx hb dX7_turned_81 hl (by decide) rfl (fun ls hl => ?_)
                  refine lv_iinc (v := zI (((i + 1 : Nat) : Int))) (lv' := [(6, .int (zI (((i + 1 : Nat) : Int)))), (4, .long (lN (ob (tf n x (decide (w = 0)) (decide (w = 1)) (decide (w = 2))) (i + 1)))), (8, .int (zI (sg (tf n x (decide (w = 0)) (decide (w = 1)) (decide (w = 2)) i)))), (7, .int (zI (((trI n w i : Nat) : Int)))), (0, .int (zI (n))), (1, .long (lN (x))), (3, .int (zI (w)))]) hx hb dX7_turned_83 hl (k := 6) rfl (zI_incr (by omega)) (by decide) rfl (fun ls hl => ?_)
                  refine lv_goto (tgt := 6) hx hb dX7_turned_86 (by decide) ?_
                  exact ih6 (i + 1) (by omega) (by omega) _ (lv_sub hl [4, 5, 6, 1, 0] rfl)
              · refine lv_iload hx hb dX7_turned_55 (lv_at hl 0 rfl) ?_
                refine z_ineg hx hb dX7_turned_57 ?_
                refine z_re (e2 := sg (tf n x (decide (w = 0)) (decide (w = 1)) (decide (w = 2)) i)) (tr_neg (by omega)) ?_
                refine lv_goto (tgt := 63) hx hb dX7_turned_58 (by decide) ?_
                refine lv_istore (lv' := [(8, .int (zI (sg (tf n x (decide (w = 0)) (decide (w = 1)) (decide (w = 2)) i)))), (7, .int (zI (((trI n w i : Nat) : Int)))), (0, .int (zI (n))), (1, .long (lN (x))), (3, .int (zI (w))), (4, .long (lN (ob (tf n x (decide (w = 0)) (decide (w = 1)) (decide (w = 2))) i))), (6, .int (zI (i)))]) hx hb dX7_turned_63 hl (by decide) rfl (fun ls hl => ?_)
                refine lv_lload hx hb dX7_turned_65 (lv_at hl 5 rfl) ?_
                refine lv_iload hx hb dX7_turned_67 (lv_at hl 0 rfl) ?_
                refine z_if_ge (tgt := 79) hx hb dX7_turned_69 (by decide) (by omega) (fun c69 => ?_) (fun c69 => ?_)
                · refine lv_lconst (v := lN 0) hx hb dX7_turned_79 rfl ?_
                  refine n_lor hx hb dX7_turned_80 ?_
                  refine n_re (e2 := ob (tf n x (decide (w = 0)) (decide (w = 1)) (decide (w = 2))) (i + 1)) (ob_0 c69) ?_
                  refine lv_lstore (lv' := [(4, .long (lN (ob (tf n x (decide (w = 0)) (decide (w = 1)) (decide (w = 2))) (i + 1)))), (8, .int (zI (sg (tf n x (decide (w = 0)) (decide (w = 1)) (decide (w = 2)) i)))), (7, .int (zI (((trI n w i : Nat) : Int)))), (0, .int (zI (n))), (1, .long (lN (x))), (3, .int (zI (w))), (6, .int (zI (i)))]) hx hb dX7_turned_81 hl (by decide) rfl (fun ls hl => ?_)
                  refine lv_iinc (v := zI (((i + 1 : Nat) : Int))) (lv' := [(6, .int (zI (((i + 1 : Nat) : Int)))), (4, .long (lN (ob (tf n x (decide (w = 0)) (decide (w = 1)) (decide (w = 2))) (i + 1)))), (8, .int (zI (sg (tf n x (decide (w = 0)) (decide (w = 1)) (decide (w = 2)) i)))), (7, .int (zI (((trI n w i : Nat) : Int)))), (0, .int (zI (n))), (1, .long (lN (x))), (3, .int (zI (w)))]) hx hb dX7_turned_83 hl (k := 6) rfl (zI_incr (by omega)) (by decide) rfl (fun ls hl => ?_)
                  refine lv_goto (tgt := 6) hx hb dX7_turned_86 (by decide) ?_
                  exact ih6 (i + 1) (by omega) (by omega) _ (lv_sub hl [4, 5, 6, 1, 0] rfl)
                · refine lv_lconst (v := lN 1) hx hb dX7_turned_72 rfl ?_
                  refine lv_iload hx hb dX7_turned_73 (lv_at hl 6 rfl) ?_
                  refine n_lshl hx hb (q := i) (by omega) dX7_turned_75 ?_
                  refine lv_goto (tgt := 80) hx hb dX7_turned_76 (by decide) ?_
                  refine n_lor hx hb dX7_turned_80 ?_
                  refine n_re (e2 := ob (tf n x (decide (w = 0)) (decide (w = 1)) (decide (w = 2))) (i + 1)) (ob_1 c69) ?_
                  refine lv_lstore (lv' := [(4, .long (lN (ob (tf n x (decide (w = 0)) (decide (w = 1)) (decide (w = 2))) (i + 1)))), (8, .int (zI (sg (tf n x (decide (w = 0)) (decide (w = 1)) (decide (w = 2)) i)))), (7, .int (zI (((trI n w i : Nat) : Int)))), (0, .int (zI (n))), (1, .long (lN (x))), (3, .int (zI (w))), (6, .int (zI (i)))]) hx hb dX7_turned_81 hl (by decide) rfl (fun ls hl => ?_)
                  refine lv_iinc (v := zI (((i + 1 : Nat) : Int))) (lv' := [(6, .int (zI (((i + 1 : Nat) : Int)))), (4, .long (lN (ob (tf n x (decide (w = 0)) (decide (w = 1)) (decide (w = 2))) (i + 1)))), (8, .int (zI (sg (tf n x (decide (w = 0)) (decide (w = 1)) (decide (w = 2)) i)))), (7, .int (zI (((trI n w i : Nat) : Int)))), (0, .int (zI (n))), (1, .long (lN (x))), (3, .int (zI (w)))]) hx hb dX7_turned_83 hl (k := 6) rfl (zI_incr (by omega)) (by decide) rfl (fun ls hl => ?_)
                  refine lv_goto (tgt := 6) hx hb dX7_turned_86 (by decide) ?_
                  exact ih6 (i + 1) (by omega) (by omega) _ (lv_sub hl [4, 5, 6, 1, 0] rfl)
        · refine lv_iload_n hx hb dX7_turned_16 rfl (lv_at hl 0 rfl) ?_
          refine lv_iconst (v := zI 1) hx hb dX7_turned_17 rfl ?_
          refine z_isub hx hb dX7_turned_18 ?_
          refine z_re (e2 := ((n - 1 : Nat) : Int)) (by omega) ?_
          refine lv_iload hx hb dX7_turned_19 (lv_at hl 4 rfl) ?_
          refine z_isub hx hb dX7_turned_21 ?_
          refine z_re (e2 := ((trI n w i : Nat) : Int)) (trI_0 (by omega) (by omega)) ?_
          refine lv_goto (tgt := 27) hx hb dX7_turned_22 (by decide) ?_
          refine lv_istore (lv' := [(7, .int (zI (((trI n w i : Nat) : Int)))), (0, .int (zI (n))), (1, .long (lN (x))), (3, .int (zI (w))), (4, .long (lN (ob (tf n x (decide (w = 0)) (decide (w = 1)) (decide (w = 2))) i))), (6, .int (zI (i)))]) hx hb dX7_turned_27 hl (by decide) rfl (fun ls hl => ?_)
          refine lv_lload_n hx hb dX7_turned_29 rfl (lv_at hl 2 rfl) ?_
          have b5 := b2 (by omega)
          refine lv_iload hx hb dX7_turned_30 (lv_at hl 0 rfl) ?_
          refine vp_callSi (va_runS (As := [.long (lN (x)), .int (zI (((trI n w i : Nat) : Int)))]) (rest := []) ⟨hx, hb, hml, hown, hts⟩ (c_X7_at l x (trI n w i) gx (by omega)) (va_cwS 2 hts gX7_turned_X7_at rfl rfl rfl (by decide +kernel) ⟨Nat.le_of_ble_eq_true rfl, Nat.le_of_ble_eq_true rfl⟩) ⟨fun a U g mk q => q, fun U hU hW => ⟨rfl, trivial⟩⟩ rfl rfl hl.1 rfl (lv_room (Nat.le_of_ble_eq_true rfl)) dX7_turned_32 ⟨Nat.le_of_ble_eq_true rfl, Nat.le_of_ble_eq_true rfl⟩).run (fun r hr32 => ?_)
          obtain rfl := hr32
          refine lv_istore (lv' := [(8, .int (zI (pm (x) (trI n w i)))), (7, .int (zI (((trI n w i : Nat) : Int)))), (0, .int (zI (n))), (1, .long (lN (x))), (3, .int (zI (w))), (4, .long (lN (ob (tf n x (decide (w = 0)) (decide (w = 1)) (decide (w = 2))) i))), (6, .int (zI (i)))]) hx hb dX7_turned_35 hl (by decide) rfl (fun ls hl => ?_)
          refine lv_iload_n hx hb dX7_turned_37 rfl (lv_at hl 4 rfl) ?_
          refine lv_iconst (v := zI 1) hx hb dX7_turned_38 rfl ?_
          refine z_icmp_eq (tgt := 55) hx hb dX7_turned_39 (by decide) (by omega) (by omega) (fun c39 => ?_) (fun c39 => ?_)
          · refine lv_iload hx hb dX7_turned_55 (lv_at hl 0 rfl) ?_
            refine z_ineg hx hb dX7_turned_57 ?_
            refine z_re (e2 := sg (tf n x (decide (w = 0)) (decide (w = 1)) (decide (w = 2)) i)) (tr_neg (by omega)) ?_
            refine lv_goto (tgt := 63) hx hb dX7_turned_58 (by decide) ?_
            refine lv_istore (lv' := [(8, .int (zI (sg (tf n x (decide (w = 0)) (decide (w = 1)) (decide (w = 2)) i)))), (7, .int (zI (((trI n w i : Nat) : Int)))), (0, .int (zI (n))), (1, .long (lN (x))), (3, .int (zI (w))), (4, .long (lN (ob (tf n x (decide (w = 0)) (decide (w = 1)) (decide (w = 2))) i))), (6, .int (zI (i)))]) hx hb dX7_turned_63 hl (by decide) rfl (fun ls hl => ?_)
            refine lv_lload hx hb dX7_turned_65 (lv_at hl 5 rfl) ?_
            refine lv_iload hx hb dX7_turned_67 (lv_at hl 0 rfl) ?_
            refine z_if_ge (tgt := 79) hx hb dX7_turned_69 (by decide) (by omega) (fun c69 => ?_) (fun c69 => ?_)
            · refine lv_lconst (v := lN 0) hx hb dX7_turned_79 rfl ?_
              refine n_lor hx hb dX7_turned_80 ?_
              refine n_re (e2 := ob (tf n x (decide (w = 0)) (decide (w = 1)) (decide (w = 2))) (i + 1)) (ob_0 c69) ?_
              refine lv_lstore (lv' := [(4, .long (lN (ob (tf n x (decide (w = 0)) (decide (w = 1)) (decide (w = 2))) (i + 1)))), (8, .int (zI (sg (tf n x (decide (w = 0)) (decide (w = 1)) (decide (w = 2)) i)))), (7, .int (zI (((trI n w i : Nat) : Int)))), (0, .int (zI (n))), (1, .long (lN (x))), (3, .int (zI (w))), (6, .int (zI (i)))]) hx hb dX7_turned_81 hl (by decide) rfl (fun ls hl => ?_)
              refine lv_iinc (v := zI (((i + 1 : Nat) : Int))) (lv' := [(6, .int (zI (((i + 1 : Nat) : Int)))), (4, .long (lN (ob (tf n x (decide (w = 0)) (decide (w = 1)) (decide (w = 2))) (i + 1)))), (8, .int (zI (sg (tf n x (decide (w = 0)) (decide (w = 1)) (decide (w = 2)) i)))), (7, .int (zI (((trI n w i : Nat) : Int)))), (0, .int (zI (n))), (1, .long (lN (x))), (3, .int (zI (w)))]) hx hb dX7_turned_83 hl (k := 6) rfl (zI_incr (by omega)) (by decide) rfl (fun ls hl => ?_)
              refine lv_goto (tgt := 6) hx hb dX7_turned_86 (by decide) ?_
              exact ih6 (i + 1) (by omega) (by omega) _ (lv_sub hl [4, 5, 6, 1, 0] rfl)
            · refine lv_lconst (v := lN 1) hx hb dX7_turned_72 rfl ?_
              refine lv_iload hx hb dX7_turned_73 (lv_at hl 6 rfl) ?_
              refine n_lshl hx hb (q := i) (by omega) dX7_turned_75 ?_
              refine lv_goto (tgt := 80) hx hb dX7_turned_76 (by decide) ?_
              refine n_lor hx hb dX7_turned_80 ?_
              refine n_re (e2 := ob (tf n x (decide (w = 0)) (decide (w = 1)) (decide (w = 2))) (i + 1)) (ob_1 c69) ?_
              refine lv_lstore (lv' := [(4, .long (lN (ob (tf n x (decide (w = 0)) (decide (w = 1)) (decide (w = 2))) (i + 1)))), (8, .int (zI (sg (tf n x (decide (w = 0)) (decide (w = 1)) (decide (w = 2)) i)))), (7, .int (zI (((trI n w i : Nat) : Int)))), (0, .int (zI (n))), (1, .long (lN (x))), (3, .int (zI (w))), (6, .int (zI (i)))]) hx hb dX7_turned_81 hl (by decide) rfl (fun ls hl => ?_)
              refine lv_iinc (v := zI (((i + 1 : Nat) : Int))) (lv' := [(6, .int (zI (((i + 1 : Nat) : Int)))), (4, .long (lN (ob (tf n x (decide (w = 0)) (decide (w = 1)) (decide (w = 2))) (i + 1)))), (8, .int (zI (sg (tf n x (decide (w = 0)) (decide (w = 1)) (decide (w = 2)) i)))), (7, .int (zI (((trI n w i : Nat) : Int)))), (0, .int (zI (n))), (1, .long (lN (x))), (3, .int (zI (w)))]) hx hb dX7_turned_83 hl (k := 6) rfl (zI_incr (by omega)) (by decide) rfl (fun ls hl => ?_)
              refine lv_goto (tgt := 6) hx hb dX7_turned_86 (by decide) ?_
              exact ih6 (i + 1) (by omega) (by omega) _ (lv_sub hl [4, 5, 6, 1, 0] rfl)
          · refine lv_iload_n hx hb dX7_turned_42 rfl (lv_at hl 4 rfl) ?_
            refine lv_iconst (v := zI 2) hx hb dX7_turned_43 rfl ?_
            refine z_icmp_ne (tgt := 61) hx hb dX7_turned_44 (by decide) (by omega) (by omega) (fun c44 => ?_) (fun c44 => ?_)
            · refine lv_iload hx hb dX7_turned_61 (lv_at hl 0 rfl) ?_
              refine z_re (e2 := sg (tf n x (decide (w = 0)) (decide (w = 1)) (decide (w = 2)) i)) (tr_pos gw (by omega)) ?_
              refine lv_istore (lv' := [(8, .int (zI (sg (tf n x (decide (w = 0)) (decide (w = 1)) (decide (w = 2)) i)))), (7, .int (zI (((trI n w i : Nat) : Int)))), (0, .int (zI (n))), (1, .long (lN (x))), (3, .int (zI (w))), (4, .long (lN (ob (tf n x (decide (w = 0)) (decide (w = 1)) (decide (w = 2))) i))), (6, .int (zI (i)))]) hx hb dX7_turned_63 hl (by decide) rfl (fun ls hl => ?_)
              refine lv_lload hx hb dX7_turned_65 (lv_at hl 5 rfl) ?_
              refine lv_iload hx hb dX7_turned_67 (lv_at hl 0 rfl) ?_
              refine z_if_ge (tgt := 79) hx hb dX7_turned_69 (by decide) (by omega) (fun c69 => ?_) (fun c69 => ?_)
              · refine lv_lconst (v := lN 0) hx hb dX7_turned_79 rfl ?_
                refine n_lor hx hb dX7_turned_80 ?_
                refine n_re (e2 := ob (tf n x (decide (w = 0)) (decide (w = 1)) (decide (w = 2))) (i + 1)) (ob_0 c69) ?_
                refine lv_lstore (lv' := [(4, .long (lN (ob (tf n x (decide (w = 0)) (decide (w = 1)) (decide (w = 2))) (i + 1)))), (8, .int (zI (sg (tf n x (decide (w = 0)) (decide (w = 1)) (decide (w = 2)) i)))), (7, .int (zI (((trI n w i : Nat) : Int)))), (0, .int (zI (n))), (1, .long (lN (x))), (3, .int (zI (w))), (6, .int (zI (i)))]) hx hb dX7_turned_81 hl (by decide) rfl (fun ls hl => ?_)
                refine lv_iinc (v := zI (((i + 1 : Nat) : Int))) (lv' := [(6, .int (zI (((i + 1 : Nat) : Int)))), (4, .long (lN (ob (tf n x (decide (w = 0)) (decide (w = 1)) (decide (w = 2))) (i + 1)))), (8, .int (zI (sg (tf n x (decide (w = 0)) (decide (w = 1)) (decide (w = 2)) i)))), (7, .int (zI (((trI n w i : Nat) : Int)))), (0, .int (zI (n))), (1, .long (lN (x))), (3, .int (zI (w)))]) hx hb dX7_turned_83 hl (k := 6) rfl (zI_incr (by omega)) (by decide) rfl (fun ls hl => ?_)
                refine lv_goto (tgt := 6) hx hb dX7_turned_86 (by decide) ?_
                exact ih6 (i + 1) (by omega) (by omega) _ (lv_sub hl [4, 5, 6, 1, 0] rfl)
              · refine lv_lconst (v := lN 1) hx hb dX7_turned_72 rfl ?_
                refine lv_iload hx hb dX7_turned_73 (lv_at hl 6 rfl) ?_
                refine n_lshl hx hb (q := i) (by omega) dX7_turned_75 ?_
                refine lv_goto (tgt := 80) hx hb dX7_turned_76 (by decide) ?_
                refine n_lor hx hb dX7_turned_80 ?_
                refine n_re (e2 := ob (tf n x (decide (w = 0)) (decide (w = 1)) (decide (w = 2))) (i + 1)) (ob_1 c69) ?_
                refine lv_lstore (lv' := [(4, .long (lN (ob (tf n x (decide (w = 0)) (decide (w = 1)) (decide (w = 2))) (i + 1)))), (8, .int (zI (sg (tf n x (decide (w = 0)) (decide (w = 1)) (decide (w = 2)) i)))), (7, .int (zI (((trI n w i : Nat) : Int)))), (0, .int (zI (n))), (1, .long (lN (x))), (3, .int (zI (w))), (6, .int (zI (i)))]) hx hb dX7_turned_81 hl (by decide) rfl (fun ls hl => ?_)
                refine lv_iinc (v := zI (((i + 1 : Nat) : Int))) (lv' := [(6, .int (zI (((i + 1 : Nat) : Int)))), (4, .long (lN (ob (tf n x (decide (w = 0)) (decide (w = 1)) (decide (w = 2))) (i + 1)))), (8, .int (zI (sg (tf n x (decide (w = 0)) (decide (w = 1)) (decide (w = 2)) i)))), (7, .int (zI (((trI n w i : Nat) : Int)))), (0, .int (zI (n))), (1, .long (lN (x))), (3, .int (zI (w)))]) hx hb dX7_turned_83 hl (k := 6) rfl (zI_incr (by omega)) (by decide) rfl (fun ls hl => ?_)
                refine lv_goto (tgt := 6) hx hb dX7_turned_86 (by decide) ?_
                exact ih6 (i + 1) (by omega) (by omega) _ (lv_sub hl [4, 5, 6, 1, 0] rfl)
            · refine lv_iload hx hb dX7_turned_47 (lv_at hl 6 rfl) ?_
              refine lv_iconst (v := zI 2) hx hb dX7_turned_49 rfl ?_
              refine z_irem hx hb (by omega) (by omega) dX7_turned_50 ?_
              refine z_re (e2 := ((i % 2 : Nat) : Int)) (by omega) ?_
              refine lv_iconst (v := zI 1) hx hb dX7_turned_51 rfl ?_
              refine z_icmp_ne (tgt := 61) hx hb dX7_turned_52 (by decide) (by omega) (by omega) (fun c52 => ?_) (fun c52 => ?_)
              · refine lv_iload hx hb dX7_turned_61 (lv_at hl 0 rfl) ?_
                refine z_re (e2 := sg (tf n x (decide (w = 0)) (decide (w = 1)) (decide (w = 2)) i)) (tr_pos gw (by omega)) ?_
                refine lv_istore (lv' := [(8, .int (zI (sg (tf n x (decide (w = 0)) (decide (w = 1)) (decide (w = 2)) i)))), (7, .int (zI (((trI n w i : Nat) : Int)))), (0, .int (zI (n))), (1, .long (lN (x))), (3, .int (zI (w))), (4, .long (lN (ob (tf n x (decide (w = 0)) (decide (w = 1)) (decide (w = 2))) i))), (6, .int (zI (i)))]) hx hb dX7_turned_63 hl (by decide) rfl (fun ls hl => ?_)
                refine lv_lload hx hb dX7_turned_65 (lv_at hl 5 rfl) ?_
                refine lv_iload hx hb dX7_turned_67 (lv_at hl 0 rfl) ?_
                refine z_if_ge (tgt := 79) hx hb dX7_turned_69 (by decide) (by omega) (fun c69 => ?_) (fun c69 => ?_)
                · refine lv_lconst (v := lN 0) hx hb dX7_turned_79 rfl ?_
                  refine n_lor hx hb dX7_turned_80 ?_
                  refine n_re (e2 := ob (tf n x (decide (w = 0)) (decide (w = 1)) (decide (w = 2))) (i + 1)) (ob_0 c69) ?_
                  refine lv_lstore (lv' := [(4, .long (lN (ob (tf n x (decide (w = 0)) (decide (w = 1)) (decide (w = 2))) (i + 1)))), (8, .int (zI (sg (tf n x (decide (w = 0)) (decide (w = 1)) (decide (w = 2)) i)))), (7, .int (zI (((trI n w i : Nat) : Int)))), (0, .int (zI (n))), (1, .long (lN (x))), (3, .int (zI (w))), (6, .int (zI (i)))]) hx hb dX7_turned_81 hl (by decide) rfl (fun ls hl => ?_)
                  refine lv_iinc (v := zI (((i + 1 : Nat) : Int))) (lv' := [(6, .int (zI (((i + 1 : Nat) : Int)))), (4, .long (lN (ob (tf n x (decide (w = 0)) (decide (w = 1)) (decide (w = 2))) (i + 1)))), (8, .int (zI (sg (tf n x (decide (w = 0)) (decide (w = 1)) (decide (w = 2)) i)))), (7, .int (zI (((trI n w i : Nat) : Int)))), (0, .int (zI (n))), (1, .long (lN (x))), (3, .int (zI (w)))]) hx hb dX7_turned_83 hl (k := 6) rfl (zI_incr (by omega)) (by decide) rfl (fun ls hl => ?_)
                  refine lv_goto (tgt := 6) hx hb dX7_turned_86 (by decide) ?_
                  exact ih6 (i + 1) (by omega) (by omega) _ (lv_sub hl [4, 5, 6, 1, 0] rfl)
                · refine lv_lconst (v := lN 1) hx hb dX7_turned_72 rfl ?_
                  refine lv_iload hx hb dX7_turned_73 (lv_at hl 6 rfl) ?_
                  refine n_lshl hx hb (q := i) (by omega) dX7_turned_75 ?_
                  refine lv_goto (tgt := 80) hx hb dX7_turned_76 (by decide) ?_
                  refine n_lor hx hb dX7_turned_80 ?_
                  refine n_re (e2 := ob (tf n x (decide (w = 0)) (decide (w = 1)) (decide (w = 2))) (i + 1)) (ob_1 c69) ?_
                  refine lv_lstore (lv' := [(4, .long (lN (ob (tf n x (decide (w = 0)) (decide (w = 1)) (decide (w = 2))) (i + 1)))), (8, .int (zI (sg (tf n x (decide (w = 0)) (decide (w = 1)) (decide (w = 2)) i)))), (7, .int (zI (((trI n w i : Nat) : Int)))), (0, .int (zI (n))), (1, .long (lN (x))), (3, .int (zI (w))), (6, .int (zI (i)))]) hx hb dX7_turned_81 hl (by decide) rfl (fun ls hl => ?_)
                  refine lv_iinc (v := zI (((i + 1 : Nat) : Int))) (lv' := [(6, .int (zI (((i + 1 : Nat) : Int)))), (4, .long (lN (ob (tf n x (decide (w = 0)) (decide (w = 1)) (decide (w = 2))) (i + 1)))), (8, .int (zI (sg (tf n x (decide (w = 0)) (decide (w = 1)) (decide (w = 2)) i)))), (7, .int (zI (((trI n w i : Nat) : Int)))), (0, .int (zI (n))), (1, .long (lN (x))), (3, .int (zI (w)))]) hx hb dX7_turned_83 hl (k := 6) rfl (zI_incr (by omega)) (by decide) rfl (fun ls hl => ?_)
                  refine lv_goto (tgt := 6) hx hb dX7_turned_86 (by decide) ?_
                  exact ih6 (i + 1) (by omega) (by omega) _ (lv_sub hl [4, 5, 6, 1, 0] rfl)
              · refine lv_iload hx hb dX7_turned_55 (lv_at hl 0 rfl) ?_
                refine z_ineg hx hb dX7_turned_57 ?_
                refine z_re (e2 := sg (tf n x (decide (w = 0)) (decide (w = 1)) (decide (w = 2)) i)) (tr_neg (by omega)) ?_
                refine lv_goto (tgt := 63) hx hb dX7_turned_58 (by decide) ?_
                refine lv_istore (lv' := [(8, .int (zI (sg (tf n x (decide (w = 0)) (decide (w = 1)) (decide (w = 2)) i)))), (7, .int (zI (((trI n w i : Nat) : Int)))), (0, .int (zI (n))), (1, .long (lN (x))), (3, .int (zI (w))), (4, .long (lN (ob (tf n x (decide (w = 0)) (decide (w = 1)) (decide (w = 2))) i))), (6, .int (zI (i)))]) hx hb dX7_turned_63 hl (by decide) rfl (fun ls hl => ?_)
                refine lv_lload hx hb dX7_turned_65 (lv_at hl 5 rfl) ?_
                refine lv_iload hx hb dX7_turned_67 (lv_at hl 0 rfl) ?_
                refine z_if_ge (tgt := 79) hx hb dX7_turned_69 (by decide) (by omega) (fun c69 => ?_) (fun c69 => ?_)
                · refine lv_lconst (v := lN 0) hx hb dX7_turned_79 rfl ?_
                  refine n_lor hx hb dX7_turned_80 ?_
                  refine n_re (e2 := ob (tf n x (decide (w = 0)) (decide (w = 1)) (decide (w = 2))) (i + 1)) (ob_0 c69) ?_
                  refine lv_lstore (lv' := [(4, .long (lN (ob (tf n x (decide (w = 0)) (decide (w = 1)) (decide (w = 2))) (i + 1)))), (8, .int (zI (sg (tf n x (decide (w = 0)) (decide (w = 1)) (decide (w = 2)) i)))), (7, .int (zI (((trI n w i : Nat) : Int)))), (0, .int (zI (n))), (1, .long (lN (x))), (3, .int (zI (w))), (6, .int (zI (i)))]) hx hb dX7_turned_81 hl (by decide) rfl (fun ls hl => ?_)
                  refine lv_iinc (v := zI (((i + 1 : Nat) : Int))) (lv' := [(6, .int (zI (((i + 1 : Nat) : Int)))), (4, .long (lN (ob (tf n x (decide (w = 0)) (decide (w = 1)) (decide (w = 2))) (i + 1)))), (8, .int (zI (sg (tf n x (decide (w = 0)) (decide (w = 1)) (decide (w = 2)) i)))), (7, .int (zI (((trI n w i : Nat) : Int)))), (0, .int (zI (n))), (1, .long (lN (x))), (3, .int (zI (w)))]) hx hb dX7_turned_83 hl (k := 6) rfl (zI_incr (by omega)) (by decide) rfl (fun ls hl => ?_)
                  refine lv_goto (tgt := 6) hx hb dX7_turned_86 (by decide) ?_
                  exact ih6 (i + 1) (by omega) (by omega) _ (lv_sub hl [4, 5, 6, 1, 0] rfl)
                · refine lv_lconst (v := lN 1) hx hb dX7_turned_72 rfl ?_
                  refine lv_iload hx hb dX7_turned_73 (lv_at hl 6 rfl) ?_
                  refine n_lshl hx hb (q := i) (by omega) dX7_turned_75 ?_
                  refine lv_goto (tgt := 80) hx hb dX7_turned_76 (by decide) ?_
                  refine n_lor hx hb dX7_turned_80 ?_
                  refine n_re (e2 := ob (tf n x (decide (w = 0)) (decide (w = 1)) (decide (w = 2))) (i + 1)) (ob_1 c69) ?_
                  refine lv_lstore (lv' := [(4, .long (lN (ob (tf n x (decide (w = 0)) (decide (w = 1)) (decide (w = 2))) (i + 1)))), (8, .int (zI (sg (tf n x (decide (w = 0)) (decide (w = 1)) (decide (w = 2)) i)))), (7, .int (zI (((trI n w i : Nat) : Int)))), (0, .int (zI (n))), (1, .long (lN (x))), (3, .int (zI (w))), (6, .int (zI (i)))]) hx hb dX7_turned_81 hl (by decide) rfl (fun ls hl => ?_)
                  refine lv_iinc (v := zI (((i + 1 : Nat) : Int))) (lv' := [(6, .int (zI (((i + 1 : Nat) : Int)))), (4, .long (lN (ob (tf n x (decide (w = 0)) (decide (w = 1)) (decide (w = 2))) (i + 1)))), (8, .int (zI (sg (tf n x (decide (w = 0)) (decide (w = 1)) (decide (w = 2)) i)))), (7, .int (zI (((trI n w i : Nat) : Int)))), (0, .int (zI (n))), (1, .long (lN (x))), (3, .int (zI (w)))]) hx hb dX7_turned_83 hl (k := 6) rfl (zI_incr (by omega)) (by decide) rfl (fun ls hl => ?_)
                  refine lv_goto (tgt := 6) hx hb dX7_turned_86 (by decide) ?_
                  exact ih6 (i + 1) (by omega) (by omega) _ (lv_sub hl [4, 5, 6, 1, 0] rfl)
  exact lp6 _ (0) (by omega) (Nat.lt_succ_self _) _ (lv_sub hl [2, 3, 4, 1, 0] rfl)

-- the check: behind
set_option maxHeartbeats 4000000 in
set_option maxRecDepth 100000 in
theorem c_X7_behind (l : Launch) (a la b : Nat) (gl : la < 64) : Met l yX7_behind wsX7_behind ({ frames := 0, cells := 0, slots := 0, locals := 0 }) (va_Pc [.int (zI (la)), .long (lN (a)), .long (lN (b))] (fun _ => True)) (vp_Sl (fun r => r = lN (jn a la b))) 0 0 (fun _ => False) := by
  refine Met.ofW (cc := cX7_behind) (maxL := 5) (ret := (some .long)) (by decide) rfl ?_
  intro p e s m args below meth c s₁ B hml hv
  obtain ⟨rfl, -⟩ := hv
  have hx := B.exec
  have hb := B.bytes
  have hr := B.returns
  have hts := atoms_spec (ws := wsX7_behind) B.pre
  have hown : s.vm.findClass RX7 = some m.cls := findClass_of_methodNamed B.named
  have hlocks := B.notSynchronized
  have hl := lv_entry ([.int (zI (la)), .long (lN (a)), .long (lN (b))]) (n := 5) (Nat.le_of_ble_eq_true rfl)
  rw [lg_entry_eq]
  generalize (lg_sl ([.int (zI (la)), .long (lN (a)), .long (lN (b))]) ++ List.replicate (5 - (lg_sl ([.int (zI (la)), .long (lN (a)), .long (lN (b))])).length) Slot.unset).toArray = ls at hl ⊢
  have hl : lv_has ls 5 [(0, .int (zI (la))), (1, .long (lN (a))), (3, .long (lN (b)))] := hl
  refine lv_lload_n hx hb dX7_behind_0 rfl (lv_at hl 1 rfl) ?_
  refine lv_lload_n hx hb dX7_behind_1 rfl (lv_at hl 2 rfl) ?_
  refine lv_iload_n hx hb dX7_behind_2 rfl (lv_at hl 0 rfl) ?_
  refine n_lshl hx hb (q := la) (by omega) dX7_behind_3 ?_
  refine n_lor hx hb dX7_behind_4 ?_
  exact W.lret (v := (lN ((a) ||| ((b) <<< (la))))) hx hb hr (fun tq ht hW => ⟨_, rfl, rfl, ht⟩) (fun q h => by cases h) dX7_behind_5

-- the check: cancelOf
set_option maxHeartbeats 4000000 in
set_option maxRecDepth 100000 in
theorem c_X7_cancelOf (l : Launch) (n a b : Nat) (gn : n ≤ 32) (g1 : 1 ≤ n) (ga : a < 4294967296) (gb : b < 4294967296) : Met l yX7_cancelOf wsX7_cancelOf ({ frames := 2, cells := 0, slots := 0, locals := 47 }) (va_Pc [.int (zI (n)), .long (lN (a)), .long (lN (b))] (fun _ => True)) (vp_Si (fun r => r = zI (ff (fun k => oS n a k + oS n b k) 1 (n - 1) : Int))) 0 0 (fun _ => False) := by
  refine Met.ofW (cc := cX7_cancelOf) (maxL := 6) (ret := (some .int)) (by decide) rfl ?_
  intro p e s m args below meth c s₁ B hml hv
  obtain ⟨rfl, -⟩ := hv
  have hx := B.exec
  have hb := B.bytes
  have hr := B.returns
  have hts := atoms_spec (ws := wsX7_cancelOf) B.pre
  have hown : s.vm.findClass RX7 = some m.cls := findClass_of_methodNamed B.named
  have hlocks := B.notSynchronized
  have hl := lv_entry ([.int (zI (n)), .long (lN (a)), .long (lN (b))]) (n := 6) (Nat.le_of_ble_eq_true rfl)
  rw [lg_entry_eq]
  generalize (lg_sl ([.int (zI (n)), .long (lN (a)), .long (lN (b))]) ++ List.replicate (6 - (lg_sl ([.int (zI (n)), .long (lN (a)), .long (lN (b))])).length) Slot.unset).toArray = ls at hl ⊢
  have hl : lv_has ls 6 [(0, .int (zI (n))), (1, .long (lN (a))), (3, .long (lN (b)))] := hl
  refine lv_iconst (v := zI 1) hx hb dX7_cancelOf_0 rfl ?_
  refine z_re (e2 := ((1 : Nat) : Int)) (rfl) ?_
  refine lv_istore (lv' := [(5, .int (zI (((1 : Nat) : Int)))), (0, .int (zI (n))), (1, .long (lN (a))), (3, .long (lN (b)))]) hx hb dX7_cancelOf_1 hl (by decide) rfl (fun ls hl => ?_)
  have lp3 : ∀ (NN : Nat) (k : Nat) (q1 : 1 ≤ k) (q2 : k ≤ n) (q3 : ff (fun k => oS n a k + oS n b k) 1 (n - 1) = ff (fun k => oS n a k + oS n b k) k (n - k)), n - k < NN → ∀ (ls : Array Slot), lv_has ls 6 [(0, .int (zI (n))), (1, .long (lN (a))), (3, .long (lN (b))), (5, .int (zI (k)))] → W p l e (headSpec wsX7_cancelOf ({ frames := 2, cells := 0, slots := 0, locals := 47 })).room s m ([.int (zI (n)), .long (lN (a)), .long (lN (b))] : List Value).toArray below meth c s.heap [] 0 0 (MQ below (vp_Si (fun r => r = zI (ff (fun k => oS n a k + oS n b k) 1 (n - 1) : Int))) ([.int (zI (n)), .long (lN (a)), .long (lN (b))] : List Value).toArray s 0 0 (fun _ => False)) (F0 m 3 ls []) := by
    intro NN
    induction NN with
    | zero =>
      intro k q1 q2 q3 hmu
      exact absurd hmu (Nat.not_lt_zero _)
    | succ NN ih3 =>
      intro k q1 q2 q3 hmu ls hl
      have b1 := oS_bd n a k
      have b2 := oS_bd n b k
      refine lv_iload hx hb dX7_cancelOf_3 (lv_at hl 3 rfl) ?_
      refine lv_iload_n hx hb dX7_cancelOf_5 rfl (lv_at hl 0 rfl) ?_
      refine z_icmp_ge (tgt := 36) hx hb dX7_cancelOf_6 (by decide) (by omega) (by omega) (fun c6 => ?_) (fun c6 => ?_)
      · refine lv_iconst (v := zI 0) hx hb dX7_cancelOf_36 rfl ?_
        exact W.iret (v := (zI (0))) hx hb hr (fun tq ht hW => ⟨_, rfl, by rw [q3, ff_e _ (by omega)]; rfl, ht⟩) (fun q h => by cases h) dX7_cancelOf_37
      · refine lv_iload_n hx hb dX7_cancelOf_9 rfl (lv_at hl 0 rfl) ?_
        refine lv_lload_n hx hb dX7_cancelOf_10 rfl (lv_at hl 1 rfl) ?_
        refine lv_iload hx hb dX7_cancelOf_11 (lv_at hl 3 rfl) ?_
        refine vp_callSi (va_runS (As := [.int (zI (n)), .long (lN (a)), .int (zI (k))]) (rest := []) ⟨hx, hb, hml, hown, hts⟩ (c_X7_openOf l n a k gn ga (by omega)) (va_cwS 3 hts gX7_cancelOf_X7_openOf rfl rfl rfl (by decide +kernel) ⟨Nat.le_of_ble_eq_true rfl, Nat.le_of_ble_eq_true rfl⟩) ⟨fun a U g mk q => q, fun U hU hW => ⟨rfl, trivial⟩⟩ rfl rfl hl.1 rfl (lv_room (Nat.le_of_ble_eq_true rfl)) dX7_cancelOf_13 ⟨Nat.le_of_ble_eq_true rfl, Nat.le_of_ble_eq_true rfl⟩).run (fun r hr13 => ?_)
        obtain rfl := hr13
        refine lv_iload_n hx hb dX7_cancelOf_16 rfl (lv_at hl 0 rfl) ?_
        refine lv_lload_n hx hb dX7_cancelOf_17 rfl (lv_at hl 2 rfl) ?_
        refine lv_iload hx hb dX7_cancelOf_18 (lv_at hl 3 rfl) ?_
        refine vp_callSi (va_runS (As := [.int (zI (n)), .long (lN (b)), .int (zI (k))]) (rest := [.int (zI (oS (n) (a) (k)))]) ⟨hx, hb, hml, hown, hts⟩ (c_X7_openOf l n b k gn gb (by omega)) (va_cwS 3 hts gX7_cancelOf_X7_openOf rfl rfl rfl (by decide +kernel) ⟨Nat.le_of_ble_eq_true rfl, Nat.le_of_ble_eq_true rfl⟩) ⟨fun a U g mk q => q, fun U hU hW => ⟨rfl, trivial⟩⟩ rfl rfl hl.1 rfl (lv_room (Nat.le_of_ble_eq_true rfl)) dX7_cancelOf_20 ⟨Nat.le_of_ble_eq_true rfl, Nat.le_of_ble_eq_true rfl⟩).run (fun r hr20 => ?_)
        obtain rfl := hr20
        refine z_iadd hx hb dX7_cancelOf_23 ?_
        refine z_if_eq (tgt := 30) hx hb dX7_cancelOf_24 (by decide) (by omega) (fun c24 => ?_) (fun c24 => ?_)
        · refine lv_iinc (v := zI (((k + 1 : Nat) : Int))) (lv' := [(5, .int (zI (((k + 1 : Nat) : Int)))), (0, .int (zI (n))), (1, .long (lN (a))), (3, .long (lN (b)))]) hx hb dX7_cancelOf_30 hl (k := 3) rfl (zI_incr (by omega)) (by decide) rfl (fun ls hl => ?_)
          refine lv_goto (tgt := 3) hx hb dX7_cancelOf_33 (by decide) ?_
          exact ih3 (k + 1) (by omega) (by omega) (by rw [q3, ff_s _ (by omega), if_neg (fun z => z c24)]) (by omega) _ (lv_sub hl [1, 2, 3, 0] rfl)
        · refine lv_iload hx hb dX7_cancelOf_27 (lv_at hl 3 rfl) ?_
          exact W.iret (v := (zI (k))) hx hb hr (fun tq ht hW => ⟨_, rfl, by rw [q3, ff_s _ (by omega), if_pos c24], ht⟩) (fun q h => by cases h) dX7_cancelOf_29
  exact lp3 _ (1) (by omega) (by omega) (rfl) (Nat.lt_succ_self _) _ (lv_sub hl [1, 2, 3, 0] rfl)

-- the check: opposite
set_option maxHeartbeats 4000000 in
set_option maxRecDepth 100000 in
theorem c_X7_opposite (l : Launch) (n x : Nat) (gn : n ≤ 32) : Met l yX7_opposite wsX7_opposite ({ frames := 0, cells := 0, slots := 0, locals := 0 }) (va_Pc [.int (zI (n)), .long (lN (x))] (fun _ => True)) (vp_Sl (fun r => r = lN (x ^^^ (2 ^ n - 1)))) 0 0 (fun _ => False) := by
  refine Met.ofW (cc := cX7_opposite) (maxL := 3) (ret := (some .long)) (by decide) rfl ?_
  intro p e s m args below meth c s₁ B hml hv
  obtain ⟨rfl, -⟩ := hv
  have hx := B.exec
  have hb := B.bytes
  have hr := B.returns
  have hts := atoms_spec (ws := wsX7_opposite) B.pre
  have hown : s.vm.findClass RX7 = some m.cls := findClass_of_methodNamed B.named
  have hlocks := B.notSynchronized
  have hl := lv_entry ([.int (zI (n)), .long (lN (x))]) (n := 3) (Nat.le_of_ble_eq_true rfl)
  rw [lg_entry_eq]
  generalize (lg_sl ([.int (zI (n)), .long (lN (x))]) ++ List.replicate (3 - (lg_sl ([.int (zI (n)), .long (lN (x))])).length) Slot.unset).toArray = ls at hl ⊢
  have hl : lv_has ls 3 [(0, .int (zI (n))), (1, .long (lN (x)))] := hl
  refine lv_lload_n hx hb dX7_opposite_0 rfl (lv_at hl 1 rfl) ?_
  refine lv_lconst (v := lN 1) hx hb dX7_opposite_1 rfl ?_
  refine lv_iload_n hx hb dX7_opposite_2 rfl (lv_at hl 0 rfl) ?_
  refine n_lshl hx hb (q := n) (by omega) dX7_opposite_3 ?_
  refine n_re (e2 := 2 ^ n) (Nat.one_shiftLeft n) ?_
  refine lv_lconst (v := lN 1) hx hb dX7_opposite_4 rfl ?_
  refine n_lsub hx hb Nat.one_le_two_pow dX7_opposite_5 ?_
  refine n_lxor hx hb dX7_opposite_6 ?_
  exact W.lret (v := (lN ((x) ^^^ ((2 ^ n) - (1))))) hx hb hr (fun tq ht hW => ⟨_, rfl, rfl, ht⟩) (fun q h => by cases h) dX7_opposite_7

-- the check: ofBits
set_option maxHeartbeats 4000000 in
set_option maxRecDepth 100000 in
theorem c_X7_ofBits (l : Launch) (n x : Nat) (gn : n ≤ 32) (gx : x < 4294967296) : Met l yX7_ofBits wsX7_ofBits ({ frames := 0, cells := 0, slots := 0, locals := 0 }) (va_Pc [.int (zI (n)), .long (lN (x))] (fun _ => True)) (vp_Sl (fun r => r = lN (rv n x))) 0 0 (fun _ => False) := by
  refine Met.ofW (cc := cX7_ofBits) (maxL := 6) (ret := (some .long)) (by decide) rfl ?_
  intro p e s m args below meth c s₁ B hml hv
  obtain ⟨rfl, -⟩ := hv
  have hx := B.exec
  have hb := B.bytes
  have hr := B.returns
  have hts := atoms_spec (ws := wsX7_ofBits) B.pre
  have hown : s.vm.findClass RX7 = some m.cls := findClass_of_methodNamed B.named
  have hlocks := B.notSynchronized
  have hl := lv_entry ([.int (zI (n)), .long (lN (x))]) (n := 6) (Nat.le_of_ble_eq_true rfl)
  rw [lg_entry_eq]
  generalize (lg_sl ([.int (zI (n)), .long (lN (x))]) ++ List.replicate (6 - (lg_sl ([.int (zI (n)), .long (lN (x))])).length) Slot.unset).toArray = ls at hl ⊢
  have hl : lv_has ls 6 [(0, .int (zI (n))), (1, .long (lN (x)))] := hl
  refine lv_lconst (v := lN 0) hx hb dX7_ofBits_0 rfl ?_
  refine n_re (e2 := ob (fun i => x.testBit (n - 1 - i)) 0) (rfl) ?_
  refine lv_lstore_n (lv' := [(3, .long (lN (ob (fun i => x.testBit (n - 1 - i)) 0))), (0, .int (zI (n))), (1, .long (lN (x)))]) hx hb dX7_ofBits_1 rfl hl (by decide) rfl (fun ls hl => ?_)
  refine lv_iconst (v := zI 0) hx hb dX7_ofBits_2 rfl ?_
  refine z_re (e2 := ((0 : Nat) : Int)) (rfl) ?_
  refine lv_istore (lv' := [(5, .int (zI (((0 : Nat) : Int)))), (3, .long (lN (ob (fun i => x.testBit (n - 1 - i)) 0))), (0, .int (zI (n))), (1, .long (lN (x)))]) hx hb dX7_ofBits_3 hl (by decide) rfl (fun ls hl => ?_)
  have lp5 : ∀ (NN : Nat) (i : Nat) (q1 : i ≤ n), n - i < NN → ∀ (ls : Array Slot), lv_has ls 6 [(0, .int (zI (n))), (1, .long (lN (x))), (3, .long (lN (ob (fun i => x.testBit (n - 1 - i)) i))), (5, .int (zI (i)))] → W p l e (headSpec wsX7_ofBits ({ frames := 0, cells := 0, slots := 0, locals := 0 })).room s m ([.int (zI (n)), .long (lN (x))] : List Value).toArray below meth c s.heap [] 0 0 (MQ below (vp_Sl (fun r => r = lN (rv n x))) ([.int (zI (n)), .long (lN (x))] : List Value).toArray s 0 0 (fun _ => False)) (F0 m 5 ls []) := by
    intro NN
    induction NN with
    | zero =>
      intro i q1 hmu
      exact absurd hmu (Nat.not_lt_zero _)
    | succ NN ih5 =>
      intro i q1 hmu ls hl
      refine lv_iload hx hb dX7_ofBits_5 (lv_at hl 3 rfl) ?_
      refine lv_iload_n hx hb dX7_ofBits_7 rfl (lv_at hl 0 rfl) ?_
      refine z_icmp_ge (tgt := 33) hx hb dX7_ofBits_8 (by decide) (by omega) (by omega) (fun c8 => ?_) (fun c8 => ?_)
      · refine lv_lload_n hx hb dX7_ofBits_33 rfl (lv_at hl 2 rfl) ?_
        exact W.lret (v := (lN (ob (fun i => x.testBit (n - 1 - i)) i))) hx hb hr (fun tq ht hW => ⟨_, rfl, by rw [show i = n by omega]; rfl, ht⟩) (fun q h => by cases h) dX7_ofBits_34
      · refine lv_lload_n hx hb dX7_ofBits_11 rfl (lv_at hl 2 rfl) ?_
        refine lv_lload_n hx hb dX7_ofBits_12 rfl (lv_at hl 1 rfl) ?_
        refine lv_iload_n hx hb dX7_ofBits_13 rfl (lv_at hl 0 rfl) ?_
        refine lv_iconst (v := zI 1) hx hb dX7_ofBits_14 rfl ?_
        refine z_isub hx hb dX7_ofBits_15 ?_
        refine z_re (e2 := ((n - 1 : Nat) : Int)) (by omega) ?_
        refine lv_iload hx hb dX7_ofBits_16 (lv_at hl 3 rfl) ?_
        refine z_isub hx hb dX7_ofBits_18 ?_
        refine z_re (e2 := ((n - 1 - i : Nat) : Int)) (by omega) ?_
        refine n_lshr hx hb (q := n - 1 - i) (by omega) (by omega) dX7_ofBits_19 ?_
        refine lv_lconst (v := lN 1) hx hb dX7_ofBits_20 rfl ?_
        refine n_land hx hb dX7_ofBits_21 ?_
        refine n_re (e2 := (x.testBit (n - 1 - i)).toNat) (tbN x _) ?_
        refine lv_iload hx hb dX7_ofBits_22 (lv_at hl 3 rfl) ?_
        refine n_lshl hx hb (q := i) (by omega) dX7_ofBits_24 ?_
        refine n_re (e2 := if x.testBit (n - 1 - i) then 1 <<< i else 0) (tbn_shl _ i) ?_
        refine n_lor hx hb dX7_ofBits_25 ?_
        refine n_re (e2 := ob (fun i => x.testBit (n - 1 - i)) (i + 1)) (rfl) ?_
        refine lv_lstore_n (lv' := [(3, .long (lN (ob (fun i => x.testBit (n - 1 - i)) (i + 1)))), (0, .int (zI (n))), (1, .long (lN (x))), (5, .int (zI (i)))]) hx hb dX7_ofBits_26 rfl hl (by decide) rfl (fun ls hl => ?_)
        refine lv_iinc (v := zI (((i + 1 : Nat) : Int))) (lv' := [(5, .int (zI (((i + 1 : Nat) : Int)))), (3, .long (lN (ob (fun i => x.testBit (n - 1 - i)) (i + 1)))), (0, .int (zI (n))), (1, .long (lN (x)))]) hx hb dX7_ofBits_27 hl (k := 3) rfl (zI_incr (by omega)) (by decide) rfl (fun ls hl => ?_)
        refine lv_goto (tgt := 5) hx hb dX7_ofBits_30 (by decide) ?_
        exact ih5 (i + 1) (by omega) (by omega) _ (lv_sub hl [2, 3, 1, 0] rfl)
  exact lp5 _ (0) (by omega) (Nat.lt_succ_self _) _ (lv_sub hl [2, 3, 1, 0] rfl)

-- the check: isLeast
set_option maxHeartbeats 4000000 in
set_option maxRecDepth 100000 in
theorem c_X7_isLeast (l : Launch) (n a b : Nat) (gn : n ≤ 8) (ga : a < 2 ^ n) (gb : b < 2 ^ n) : Met l yX7_isLeast wsX7_isLeast ({ frames := 2, cells := 0, slots := 0, locals := 50 }) (va_Pc [.int (zI (n)), .int (zI (a)), .int (zI (b))] (fun _ => True)) (vp_Si (fun r => r = zI (bP (isLs n a b = true)))) 0 0 (fun _ => False) := by
  refine Met.ofW (cc := cX7_isLeast) (maxL := 12) (ret := (some .boolean)) (by decide) rfl ?_
  intro p e s m args below meth c s₁ B hml hv
  obtain ⟨rfl, -⟩ := hv
  have hx := B.exec
  have hb := B.bytes
  have hr := B.returns
  have hts := atoms_spec (ws := wsX7_isLeast) B.pre
  have hown : s.vm.findClass RX7 = some m.cls := findClass_of_methodNamed B.named
  have hlocks := B.notSynchronized
  have hl := lv_entry ([.int (zI (n)), .int (zI (a)), .int (zI (b))]) (n := 12) (Nat.le_of_ble_eq_true rfl)
  rw [lg_entry_eq]
  generalize (lg_sl ([.int (zI (n)), .int (zI (a)), .int (zI (b))]) ++ List.replicate (12 - (lg_sl ([.int (zI (n)), .int (zI (a)), .int (zI (b))])).length) Slot.unset).toArray = ls at hl ⊢
  have hl : lv_has ls 12 [(0, .int (zI (n))), (1, .int (zI (a))), (2, .int (zI (b)))] := hl
  have ga2 := lt32 ga (by omega)
  have gb2 := lt32 gb (by omega)
  have g256 : 2 ^ n ≤ 2 ^ 8 := Nat.pow_le_pow_right (n := 2) (j := 8) (by decide) gn
  refine lv_iconst (v := zI 0) hx hb dX7_isLeast_0 rfl ?_
  refine z_re (e2 := ((0 : Nat) : Int)) (rfl) ?_
  refine lv_istore_n (lv' := [(3, .int (zI (((0 : Nat) : Int)))), (0, .int (zI (n))), (1, .int (zI (a))), (2, .int (zI (b)))]) hx hb dX7_isLeast_1 rfl hl (by decide) rfl (fun ls hl => ?_)
  have lp2 : ∀ (NN : Nat) (τ : Nat) (q1 : τ ≤ 64) (q2 : ∀ i, i < τ → isLp n a b i = false), 64 - τ < NN → ∀ (ls : Array Slot), lv_has ls 12 [(0, .int (zI (n))), (1, .int (zI (a))), (2, .int (zI (b))), (3, .int (zI (τ)))] → W p l e (headSpec wsX7_isLeast ({ frames := 2, cells := 0, slots := 0, locals := 50 })).room s m ([.int (zI (n)), .int (zI (a)), .int (zI (b))] : List Value).toArray below meth c s.heap [] 0 0 (MQ below (vp_Si (fun r => r = zI (bP (isLs n a b = true)))) ([.int (zI (n)), .int (zI (a)), .int (zI (b))] : List Value).toArray s 0 0 (fun _ => False)) (F0 m 2 ls []) := by
    intro NN
    induction NN with
    | zero =>
      intro τ q1 q2 hmu
      exact absurd hmu (Nat.not_lt_zero _)
    | succ NN ih2 =>
      intro τ q1 q2 hmu ls hl
      refine lv_iload_n hx hb dX7_isLeast_2 rfl (lv_at hl 3 rfl) ?_
      refine lv_bipush (v := zI 64) hx hb dX7_isLeast_3 (by decide +kernel) ?_
      refine z_icmp_ge (tgt := 203) hx hb dX7_isLeast_5 (by decide) (by omega) (by omega) (fun c5 => ?_) (fun c5 => ?_)
      · refine lv_iconst (v := zI 1) hx hb dX7_isLeast_203 rfl ?_
        exact W.zret (v := (zI (1))) hx hb hr (nar_b _ (by first | exact Or.inl rfl | exact Or.inr rfl | exact bP_or _)) (fun tq ht hW => ⟨_, rfl, by rw [bP_1 (isLs_iff.mpr (fun i hi => q2 i (by omega)))], ht⟩) (fun q h => by cases h) dX7_isLeast_204
      · obtain ⟨k0, k1, k2, k3, k4, k5⟩ := tbits τ (by omega)
        have bx := lt32 (TW_lt n a (τ.testBit 0) (τ.testBit 2) (τ.testBit 4)) (by omega)
        have by2 := lt32 (TW_lt n b (τ.testBit 1) (τ.testBit 3) (τ.testBit 4)) (by omega)
        refine lv_iload_n hx hb dX7_isLeast_8 rfl (lv_at hl 1 rfl) ?_
        refine n_i2l (a := a) hx hb (by omega) dX7_isLeast_9 ?_
        refine lv_lstore (lv' := [(4, .long (lN (a))), (0, .int (zI (n))), (1, .int (zI (a))), (2, .int (zI (b))), (3, .int (zI (τ)))]) hx hb dX7_isLeast_10 hl (by decide) rfl (fun ls hl => ?_)
        refine lv_iload_n hx hb dX7_isLeast_12 rfl (lv_at hl 3 rfl) ?_
        refine n_i2l (a := b) hx hb (by omega) dX7_isLeast_13 ?_
        refine lv_lstore (lv' := [(6, .long (lN (b))), (4, .long (lN (a))), (0, .int (zI (n))), (1, .int (zI (a))), (2, .int (zI (b))), (3, .int (zI (τ)))]) hx hb dX7_isLeast_14 hl (by decide) rfl (fun ls hl => ?_)
        have lp36 : ∀ (ls : Array Slot), lv_has ls 12 [(0, .int (zI (n))), (1, .int (zI (a))), (2, .int (zI (b))), (3, .int (zI (τ))), (4, .long (lN (TW n a (τ.testBit 0) false false))), (6, .long (lN (b)))] → W p l e (headSpec wsX7_isLeast ({ frames := 2, cells := 0, slots := 0, locals := 50 })).room s m ([.int (zI (n)), .int (zI (a)), .int (zI (b))] : List Value).toArray below meth c s.heap [] 0 0 (MQ below (vp_Si (fun r => r = zI (bP (isLs n a b = true)))) ([.int (zI (n)), .int (zI (a)), .int (zI (b))] : List Value).toArray s 0 0 (fun _ => False)) (F0 m 36 ls []) := by
          intro   ls hl
          have lp56 : ∀ (ls : Array Slot), lv_has ls 12 [(0, .int (zI (n))), (1, .int (zI (a))), (2, .int (zI (b))), (3, .int (zI (τ))), (4, .long (lN (TW n a (τ.testBit 0) false false))), (6, .long (lN (TW n b (τ.testBit 1) false false)))] → W p l e (headSpec wsX7_isLeast ({ frames := 2, cells := 0, slots := 0, locals := 50 })).room s m ([.int (zI (n)), .int (zI (a)), .int (zI (b))] : List Value).toArray below meth c s.heap [] 0 0 (MQ below (vp_Si (fun r => r = zI (bP (isLs n a b = true)))) ([.int (zI (n)), .int (zI (a)), .int (zI (b))] : List Value).toArray s 0 0 (fun _ => False)) (F0 m 56 ls []) := by
            intro   ls hl
            have lp76 : ∀ (ls : Array Slot), lv_has ls 12 [(0, .int (zI (n))), (1, .int (zI (a))), (2, .int (zI (b))), (3, .int (zI (τ))), (4, .long (lN (TW n a (τ.testBit 0) (τ.testBit 2) false))), (6, .long (lN (TW n b (τ.testBit 1) false false)))] → W p l e (headSpec wsX7_isLeast ({ frames := 2, cells := 0, slots := 0, locals := 50 })).room s m ([.int (zI (n)), .int (zI (a)), .int (zI (b))] : List Value).toArray below meth c s.heap [] 0 0 (MQ below (vp_Si (fun r => r = zI (bP (isLs n a b = true)))) ([.int (zI (n)), .int (zI (a)), .int (zI (b))] : List Value).toArray s 0 0 (fun _ => False)) (F0 m 76 ls []) := by
              intro   ls hl
              have lp97 : ∀ (ls : Array Slot), lv_has ls 12 [(0, .int (zI (n))), (1, .int (zI (a))), (2, .int (zI (b))), (3, .int (zI (τ))), (4, .long (lN (TW n a (τ.testBit 0) (τ.testBit 2) false))), (6, .long (lN (TW n b (τ.testBit 1) (τ.testBit 3) false)))] → W p l e (headSpec wsX7_isLeast ({ frames := 2, cells := 0, slots := 0, locals := 50 })).room s m ([.int (zI (n)), .int (zI (a)), .int (zI (b))] : List Value).toArray below meth c s.heap [] 0 0 (MQ below (vp_Si (fun r => r = zI (bP (isLs n a b = true)))) ([.int (zI (n)), .int (zI (a)), .int (zI (b))] : List Value).toArray s 0 0 (fun _ => False)) (F0 m 97 ls []) := by
                intro   ls hl
                have lp118 : ∀ (ls : Array Slot), lv_has ls 12 [(0, .int (zI (n))), (1, .int (zI (a))), (2, .int (zI (b))), (3, .int (zI (τ))), (4, .long (lN (TW n a (τ.testBit 0) (τ.testBit 2) (τ.testBit 4)))), (6, .long (lN (TW n b (τ.testBit 1) (τ.testBit 3) false)))] → W p l e (headSpec wsX7_isLeast ({ frames := 2, cells := 0, slots := 0, locals := 50 })).room s m ([.int (zI (n)), .int (zI (a)), .int (zI (b))] : List Value).toArray below meth c s.heap [] 0 0 (MQ below (vp_Si (fun r => r = zI (bP (isLs n a b = true)))) ([.int (zI (n)), .int (zI (a)), .int (zI (b))] : List Value).toArray s 0 0 (fun _ => False)) (F0 m 118 ls []) := by
                  intro   ls hl
                  have lp139 : ∀ (ls : Array Slot), lv_has ls 12 [(0, .int (zI (n))), (1, .int (zI (a))), (2, .int (zI (b))), (3, .int (zI (τ))), (4, .long (lN (TW n a (τ.testBit 0) (τ.testBit 2) (τ.testBit 4)))), (6, .long (lN (TW n b (τ.testBit 1) (τ.testBit 3) (τ.testBit 4))))] → W p l e (headSpec wsX7_isLeast ({ frames := 2, cells := 0, slots := 0, locals := 50 })).room s m ([.int (zI (n)), .int (zI (a)), .int (zI (b))] : List Value).toArray below meth c s.heap [] 0 0 (MQ below (vp_Si (fun r => r = zI (bP (isLs n a b = true)))) ([.int (zI (n)), .int (zI (a)), .int (zI (b))] : List Value).toArray s 0 0 (fun _ => False)) (F0 m 139 ls []) := by
                    intro   ls hl
                    have lp155 : ∀ (ls : Array Slot), lv_has ls 12 [(0, .int (zI (n))), (1, .int (zI (a))), (2, .int (zI (b))), (3, .int (zI (τ))), (4, .long (lN (TW n a (τ.testBit 0) (τ.testBit 2) (τ.testBit 4)))), (6, .long (lN (TW n b (τ.testBit 1) (τ.testBit 3) (τ.testBit 4)))), (8, .long (lN (if τ.testBit 5 then TW n b (τ.testBit 1) (τ.testBit 3) (τ.testBit 4) else TW n a (τ.testBit 0) (τ.testBit 2) (τ.testBit 4))))] → W p l e (headSpec wsX7_isLeast ({ frames := 2, cells := 0, slots := 0, locals := 50 })).room s m ([.int (zI (n)), .int (zI (a)), .int (zI (b))] : List Value).toArray below meth c s.heap [] 0 0 (MQ below (vp_Si (fun r => r = zI (bP (isLs n a b = true)))) ([.int (zI (n)), .int (zI (a)), .int (zI (b))] : List Value).toArray s 0 0 (fun _ => False)) (F0 m 155 ls []) := by
                      intro   ls hl
                      have lp171 : ∀ (ls : Array Slot), lv_has ls 12 [(0, .int (zI (n))), (1, .int (zI (a))), (2, .int (zI (b))), (3, .int (zI (τ))), (8, .long (lN (if τ.testBit 5 then TW n b (τ.testBit 1) (τ.testBit 3) (τ.testBit 4) else TW n a (τ.testBit 0) (τ.testBit 2) (τ.testBit 4)))), (10, .long (lN (if τ.testBit 5 then TW n a (τ.testBit 0) (τ.testBit 2) (τ.testBit 4) else TW n b (τ.testBit 1) (τ.testBit 3) (τ.testBit 4))))] → W p l e (headSpec wsX7_isLeast ({ frames := 2, cells := 0, slots := 0, locals := 50 })).room s m ([.int (zI (n)), .int (zI (a)), .int (zI (b))] : List Value).toArray below meth c s.heap [] 0 0 (MQ below (vp_Si (fun r => r = zI (bP (isLs n a b = true)))) ([.int (zI (n)), .int (zI (a)), .int (zI (b))] : List Value).toArray s 0 0 (fun _ => False)) (F0 m 171 ls []) := by
                        intro   ls hl
                        have bf : (if τ.testBit 5 then TW n b (τ.testBit 1) (τ.testBit 3) (τ.testBit 4) else TW n a (τ.testBit 0) (τ.testBit 2) (τ.testBit 4)) < 4294967296 := by split <;> omega
                        have bs : (if τ.testBit 5 then TW n a (τ.testBit 0) (τ.testBit 2) (τ.testBit 4) else TW n b (τ.testBit 1) (τ.testBit 3) (τ.testBit 4)) < 4294967296 := by split <;> omega
                        refine lv_lload hx hb dX7_isLeast_171 (lv_at hl 4 rfl) ?_
                        refine lv_iload_n hx hb dX7_isLeast_173 rfl (lv_at hl 1 rfl) ?_
                        refine n_i2l (a := a) hx hb (by omega) dX7_isLeast_174 ?_
                        refine z_lcmp_lt (a := ((if τ.testBit 5 then TW n b (τ.testBit 1) (τ.testBit 3) (τ.testBit 4) else TW n a (τ.testBit 0) (τ.testBit 2) (τ.testBit 4) : Nat) : Int)) (b := ((a : Nat) : Int)) (tgt := 195) hx hb dX7_isLeast_175 dX7_isLeast_176 (by decide) (lN_toI (n := if τ.testBit 5 then TW n b (τ.testBit 1) (τ.testBit 3) (τ.testBit 4) else TW n a (τ.testBit 0) (τ.testBit 2) (τ.testBit 4)) (by omega)) (lN_toI (n := a) (by omega)) (fun c175 => ?_) (fun c175 => ?_)
                        · refine lv_iconst (v := zI 0) hx hb dX7_isLeast_195 rfl ?_
                          exact W.zret (v := (zI (0))) hx hb hr (nar_b _ (by first | exact Or.inl rfl | exact Or.inr rfl | exact bP_or _)) (fun tq ht hW => ⟨_, rfl, by rw [bP_0 (fun z => by have y := isLs_iff.mp z τ (by omega); have w := of_decide_eq_false y; exact w (Or.inl (Int.ofNat_lt.mp c175)))], ht⟩) (fun q h => by cases h) dX7_isLeast_196
                        · refine lv_lload hx hb dX7_isLeast_179 (lv_at hl 4 rfl) ?_
                          refine lv_iload_n hx hb dX7_isLeast_181 rfl (lv_at hl 1 rfl) ?_
                          refine n_i2l (a := a) hx hb (by omega) dX7_isLeast_182 ?_
                          refine z_lcmp_ne (a := ((if τ.testBit 5 then TW n b (τ.testBit 1) (τ.testBit 3) (τ.testBit 4) else TW n a (τ.testBit 0) (τ.testBit 2) (τ.testBit 4) : Nat) : Int)) (b := ((a : Nat) : Int)) (tgt := 197) hx hb dX7_isLeast_183 dX7_isLeast_184 (by decide) (lN_toI (n := if τ.testBit 5 then TW n b (τ.testBit 1) (τ.testBit 3) (τ.testBit 4) else TW n a (τ.testBit 0) (τ.testBit 2) (τ.testBit 4)) (by omega)) (lN_toI (n := a) (by omega)) (fun c183 => ?_) (fun c183 => ?_)
                          · have hn : isLp n a b τ = false := decide_eq_false (fun y => y.elim (fun u => absurd (Int.ofNat_lt.mpr u) (by omega)) (fun u => c183 (congrArg Nat.cast u.1)))
                            refine lv_iinc (v := zI (((τ + 1 : Nat) : Int))) (lv' := [(3, .int (zI (((τ + 1 : Nat) : Int)))), (0, .int (zI (n))), (1, .int (zI (a))), (2, .int (zI (b))), (8, .long (lN (if τ.testBit 5 then TW n b (τ.testBit 1) (τ.testBit 3) (τ.testBit 4) else TW n a (τ.testBit 0) (τ.testBit 2) (τ.testBit 4)))), (10, .long (lN (if τ.testBit 5 then TW n a (τ.testBit 0) (τ.testBit 2) (τ.testBit 4) else TW n b (τ.testBit 1) (τ.testBit 3) (τ.testBit 4))))]) hx hb dX7_isLeast_197 hl (k := 3) rfl (zI_incr (by omega)) (by decide) rfl (fun ls hl => ?_)
                            refine lv_goto (tgt := 2) hx hb dX7_isLeast_200 (by decide) ?_
                            exact ih2 (τ + 1) (by omega) (fun i hi => (Nat.lt_succ_iff_lt_or_eq.mp hi).elim (q2 i) (fun z => by rw [z]; exact hn)) (by omega) _ (lv_sub hl [1, 2, 3, 0] rfl)
                          · refine lv_lload hx hb dX7_isLeast_187 (lv_at hl 5 rfl) ?_
                            refine lv_iload_n hx hb dX7_isLeast_189 rfl (lv_at hl 2 rfl) ?_
                            refine n_i2l (a := b) hx hb (by omega) dX7_isLeast_190 ?_
                            refine z_lcmp_ge (a := ((if τ.testBit 5 then TW n a (τ.testBit 0) (τ.testBit 2) (τ.testBit 4) else TW n b (τ.testBit 1) (τ.testBit 3) (τ.testBit 4) : Nat) : Int)) (b := ((b : Nat) : Int)) (tgt := 197) hx hb dX7_isLeast_191 dX7_isLeast_192 (by decide) (lN_toI (n := if τ.testBit 5 then TW n a (τ.testBit 0) (τ.testBit 2) (τ.testBit 4) else TW n b (τ.testBit 1) (τ.testBit 3) (τ.testBit 4)) (by omega)) (lN_toI (n := b) (by omega)) (fun c191 => ?_) (fun c191 => ?_)
                            · have hn : isLp n a b τ = false := decide_eq_false (fun y => y.elim (fun u => absurd (Int.ofNat_lt.mpr u) (by omega)) (fun u => absurd (Int.ofNat_lt.mpr u.2) (by omega)))
                              refine lv_iinc (v := zI (((τ + 1 : Nat) : Int))) (lv' := [(3, .int (zI (((τ + 1 : Nat) : Int)))), (0, .int (zI (n))), (1, .int (zI (a))), (2, .int (zI (b))), (8, .long (lN (if τ.testBit 5 then TW n b (τ.testBit 1) (τ.testBit 3) (τ.testBit 4) else TW n a (τ.testBit 0) (τ.testBit 2) (τ.testBit 4)))), (10, .long (lN (if τ.testBit 5 then TW n a (τ.testBit 0) (τ.testBit 2) (τ.testBit 4) else TW n b (τ.testBit 1) (τ.testBit 3) (τ.testBit 4))))]) hx hb dX7_isLeast_197 hl (k := 3) rfl (zI_incr (by omega)) (by decide) rfl (fun ls hl => ?_)
                              refine lv_goto (tgt := 2) hx hb dX7_isLeast_200 (by decide) ?_
                              exact ih2 (τ + 1) (by omega) (fun i hi => (Nat.lt_succ_iff_lt_or_eq.mp hi).elim (q2 i) (fun z => by rw [z]; exact hn)) (by omega) _ (lv_sub hl [1, 2, 3, 0] rfl)
                            · refine lv_iconst (v := zI 0) hx hb dX7_isLeast_195 rfl ?_
                              exact W.zret (v := (zI (0))) hx hb hr (nar_b _ (by first | exact Or.inl rfl | exact Or.inr rfl | exact bP_or _)) (fun tq ht hW => ⟨_, rfl, by rw [bP_0 (fun z => by have y := isLs_iff.mp z τ (by omega); have w := of_decide_eq_false y; exact w (Or.inr ⟨Int.ofNat.inj c183, Int.ofNat_lt.mp c191⟩))], ht⟩) (fun q h => by cases h) dX7_isLeast_196
                      refine lv_iload_n hx hb dX7_isLeast_155 rfl (lv_at hl 3 rfl) ?_
                      refine lv_bipush (v := zI 32) hx hb dX7_isLeast_156 (by decide +kernel) ?_
                      refine n_iand hx hb (a := τ) (b := 32) dX7_isLeast_158 ?_
                      refine z_if_le (tgt := 167) hx hb dX7_isLeast_159 (by decide) (by have z := k5; have y := tbn_lt (τ.testBit 5); have w := Bool.toNat_le (τ.testBit 5); omega) (fun c159 => ?_) (fun c159 => ?_)
                      · refine lv_lload hx hb dX7_isLeast_167 (lv_at hl 5 rfl) ?_
                        refine n_re (e2 := if τ.testBit 5 then TW n a (τ.testBit 0) (τ.testBit 2) (τ.testBit 4) else TW n b (τ.testBit 1) (τ.testBit 3) (τ.testBit 4)) (by rw [tb_f k5 (by decide) c159]; rfl) ?_
                        refine lv_lstore (lv' := [(10, .long (lN (if τ.testBit 5 then TW n a (τ.testBit 0) (τ.testBit 2) (τ.testBit 4) else TW n b (τ.testBit 1) (τ.testBit 3) (τ.testBit 4)))), (0, .int (zI (n))), (1, .int (zI (a))), (2, .int (zI (b))), (3, .int (zI (τ))), (4, .long (lN (TW n a (τ.testBit 0) (τ.testBit 2) (τ.testBit 4)))), (6, .long (lN (TW n b (τ.testBit 1) (τ.testBit 3) (τ.testBit 4)))), (8, .long (lN (if τ.testBit 5 then TW n b (τ.testBit 1) (τ.testBit 3) (τ.testBit 4) else TW n a (τ.testBit 0) (τ.testBit 2) (τ.testBit 4))))]) hx hb dX7_isLeast_169 hl (by decide) rfl (fun ls hl => ?_)
                        exact lp171    _ (lv_sub hl [1, 2, 3, 4, 7, 0] rfl)
                      · refine lv_lload hx hb dX7_isLeast_162 (lv_at hl 4 rfl) ?_
                        refine n_re (e2 := if τ.testBit 5 then TW n a (τ.testBit 0) (τ.testBit 2) (τ.testBit 4) else TW n b (τ.testBit 1) (τ.testBit 3) (τ.testBit 4)) (by rw [tb_t k5 c159]; rfl) ?_
                        refine lv_goto (tgt := 169) hx hb dX7_isLeast_164 (by decide) ?_
                        refine lv_lstore (lv' := [(10, .long (lN (if τ.testBit 5 then TW n a (τ.testBit 0) (τ.testBit 2) (τ.testBit 4) else TW n b (τ.testBit 1) (τ.testBit 3) (τ.testBit 4)))), (0, .int (zI (n))), (1, .int (zI (a))), (2, .int (zI (b))), (3, .int (zI (τ))), (4, .long (lN (TW n a (τ.testBit 0) (τ.testBit 2) (τ.testBit 4)))), (6, .long (lN (TW n b (τ.testBit 1) (τ.testBit 3) (τ.testBit 4)))), (8, .long (lN (if τ.testBit 5 then TW n b (τ.testBit 1) (τ.testBit 3) (τ.testBit 4) else TW n a (τ.testBit 0) (τ.testBit 2) (τ.testBit 4))))]) hx hb dX7_isLeast_169 hl (by decide) rfl (fun ls hl => ?_)
                        exact lp171    _ (lv_sub hl [1, 2, 3, 4, 7, 0] rfl)
                    refine lv_iload_n hx hb dX7_isLeast_139 rfl (lv_at hl 3 rfl) ?_
                    refine lv_bipush (v := zI 32) hx hb dX7_isLeast_140 (by decide +kernel) ?_
                    refine n_iand hx hb (a := τ) (b := 32) dX7_isLeast_142 ?_
                    refine z_if_le (tgt := 151) hx hb dX7_isLeast_143 (by decide) (by have z := k5; have y := tbn_lt (τ.testBit 5); have w := Bool.toNat_le (τ.testBit 5); omega) (fun c143 => ?_) (fun c143 => ?_)
                    · refine lv_lload hx hb dX7_isLeast_151 (lv_at hl 4 rfl) ?_
                      refine n_re (e2 := if τ.testBit 5 then TW n b (τ.testBit 1) (τ.testBit 3) (τ.testBit 4) else TW n a (τ.testBit 0) (τ.testBit 2) (τ.testBit 4)) (by rw [tb_f k5 (by decide) c143]; rfl) ?_
                      refine lv_lstore (lv' := [(8, .long (lN (if τ.testBit 5 then TW n b (τ.testBit 1) (τ.testBit 3) (τ.testBit 4) else TW n a (τ.testBit 0) (τ.testBit 2) (τ.testBit 4)))), (0, .int (zI (n))), (1, .int (zI (a))), (2, .int (zI (b))), (3, .int (zI (τ))), (4, .long (lN (TW n a (τ.testBit 0) (τ.testBit 2) (τ.testBit 4)))), (6, .long (lN (TW n b (τ.testBit 1) (τ.testBit 3) (τ.testBit 4))))]) hx hb dX7_isLeast_153 hl (by decide) rfl (fun ls hl => ?_)
                      exact lp155    _ (lv_sub hl [1, 2, 3, 4, 5, 6, 0] rfl)
                    · refine lv_lload hx hb dX7_isLeast_146 (lv_at hl 5 rfl) ?_
                      refine n_re (e2 := if τ.testBit 5 then TW n b (τ.testBit 1) (τ.testBit 3) (τ.testBit 4) else TW n a (τ.testBit 0) (τ.testBit 2) (τ.testBit 4)) (by rw [tb_t k5 c143]; rfl) ?_
                      refine lv_goto (tgt := 153) hx hb dX7_isLeast_148 (by decide) ?_
                      refine lv_lstore (lv' := [(8, .long (lN (if τ.testBit 5 then TW n b (τ.testBit 1) (τ.testBit 3) (τ.testBit 4) else TW n a (τ.testBit 0) (τ.testBit 2) (τ.testBit 4)))), (0, .int (zI (n))), (1, .int (zI (a))), (2, .int (zI (b))), (3, .int (zI (τ))), (4, .long (lN (TW n a (τ.testBit 0) (τ.testBit 2) (τ.testBit 4)))), (6, .long (lN (TW n b (τ.testBit 1) (τ.testBit 3) (τ.testBit 4))))]) hx hb dX7_isLeast_153 hl (by decide) rfl (fun ls hl => ?_)
                      exact lp155    _ (lv_sub hl [1, 2, 3, 4, 5, 6, 0] rfl)
                  refine lv_iload_n hx hb dX7_isLeast_118 rfl (lv_at hl 3 rfl) ?_
                  refine lv_bipush (v := zI 16) hx hb dX7_isLeast_119 (by decide +kernel) ?_
                  refine n_iand hx hb (a := τ) (b := 16) dX7_isLeast_121 ?_
                  refine z_if_le (tgt := 135) hx hb dX7_isLeast_122 (by decide) (by have z := k4; have y := tbn_lt (τ.testBit 4); have w := Bool.toNat_le (τ.testBit 4); omega) (fun c122 => ?_) (fun c122 => ?_)
                  · refine lv_lload hx hb dX7_isLeast_135 (lv_at hl 5 rfl) ?_
                    refine n_re (e2 := TW n b (τ.testBit 1) (τ.testBit 3) (τ.testBit 4)) (by rw [tb_f k4 (by decide) c122]) ?_
                    refine lv_lstore (lv' := [(6, .long (lN (TW n b (τ.testBit 1) (τ.testBit 3) (τ.testBit 4)))), (0, .int (zI (n))), (1, .int (zI (a))), (2, .int (zI (b))), (3, .int (zI (τ))), (4, .long (lN (TW n a (τ.testBit 0) (τ.testBit 2) (τ.testBit 4))))]) hx hb dX7_isLeast_137 hl (by decide) rfl (fun ls hl => ?_)
                    exact lp139    _ (lv_sub hl [1, 2, 3, 4, 5, 0] rfl)
                  · refine lv_iload_n hx hb dX7_isLeast_125 rfl (lv_at hl 0 rfl) ?_
                    refine lv_lload hx hb dX7_isLeast_126 (lv_at hl 5 rfl) ?_
                    refine lv_iconst (v := zI 2) hx hb dX7_isLeast_128 rfl ?_
                    refine z_re (e2 := ((2 : Nat) : Int)) (rfl) ?_
                    refine vp_callSl (va_runS (As := [.int (zI (n)), .long (lN (TW n b (τ.testBit 1) (τ.testBit 3) false)), .int (zI (((2 : Nat) : Int)))]) (rest := []) ⟨hx, hb, hml, hown, hts⟩ (c_X7_turned l n (TW n b (τ.testBit 1) (τ.testBit 3) false) 2 (by omega) (lt32 (TW_lt _ _ _ _ _) (by omega)) (by decide)) (va_cwS 3 hts gX7_isLeast_X7_turned rfl rfl rfl (by decide +kernel) ⟨Nat.le_of_ble_eq_true rfl, Nat.le_of_ble_eq_true rfl⟩) ⟨fun a U g mk q => q, fun U hU hW => ⟨rfl, trivial⟩⟩ rfl rfl hl.1 rfl (lv_room (Nat.le_of_ble_eq_true rfl)) dX7_isLeast_129 ⟨Nat.le_of_ble_eq_true rfl, Nat.le_of_ble_eq_true rfl⟩).run (fun r hr129 => ?_)
                    obtain rfl := hr129
                    refine n_re (e2 := TW n b (τ.testBit 1) (τ.testBit 3) (τ.testBit 4)) (by rw [tb_t k4 c122]; exact TW_2 n _ _ _) ?_
                    refine lv_goto (tgt := 137) hx hb dX7_isLeast_132 (by decide) ?_
                    refine lv_lstore (lv' := [(6, .long (lN (TW n b (τ.testBit 1) (τ.testBit 3) (τ.testBit 4)))), (0, .int (zI (n))), (1, .int (zI (a))), (2, .int (zI (b))), (3, .int (zI (τ))), (4, .long (lN (TW n a (τ.testBit 0) (τ.testBit 2) (τ.testBit 4))))]) hx hb dX7_isLeast_137 hl (by decide) rfl (fun ls hl => ?_)
                    exact lp139    _ (lv_sub hl [1, 2, 3, 4, 5, 0] rfl)
                refine lv_iload_n hx hb dX7_isLeast_97 rfl (lv_at hl 3 rfl) ?_
                refine lv_bipush (v := zI 16) hx hb dX7_isLeast_98 (by decide +kernel) ?_
                refine n_iand hx hb (a := τ) (b := 16) dX7_isLeast_100 ?_
                refine z_if_le (tgt := 114) hx hb dX7_isLeast_101 (by decide) (by have z := k4; have y := tbn_lt (τ.testBit 4); have w := Bool.toNat_le (τ.testBit 4); omega) (fun c101 => ?_) (fun c101 => ?_)
                · refine lv_lload hx hb dX7_isLeast_114 (lv_at hl 4 rfl) ?_
                  refine n_re (e2 := TW n a (τ.testBit 0) (τ.testBit 2) (τ.testBit 4)) (by rw [tb_f k4 (by decide) c101]) ?_
                  refine lv_lstore (lv' := [(4, .long (lN (TW n a (τ.testBit 0) (τ.testBit 2) (τ.testBit 4)))), (0, .int (zI (n))), (1, .int (zI (a))), (2, .int (zI (b))), (3, .int (zI (τ))), (6, .long (lN (TW n b (τ.testBit 1) (τ.testBit 3) false)))]) hx hb dX7_isLeast_116 hl (by decide) rfl (fun ls hl => ?_)
                  exact lp118    _ (lv_sub hl [1, 2, 3, 4, 0, 5] rfl)
                · refine lv_iload_n hx hb dX7_isLeast_104 rfl (lv_at hl 0 rfl) ?_
                  refine lv_lload hx hb dX7_isLeast_105 (lv_at hl 4 rfl) ?_
                  refine lv_iconst (v := zI 2) hx hb dX7_isLeast_107 rfl ?_
                  refine z_re (e2 := ((2 : Nat) : Int)) (rfl) ?_
                  refine vp_callSl (va_runS (As := [.int (zI (n)), .long (lN (TW n a (τ.testBit 0) (τ.testBit 2) false)), .int (zI (((2 : Nat) : Int)))]) (rest := []) ⟨hx, hb, hml, hown, hts⟩ (c_X7_turned l n (TW n a (τ.testBit 0) (τ.testBit 2) false) 2 (by omega) (lt32 (TW_lt _ _ _ _ _) (by omega)) (by decide)) (va_cwS 3 hts gX7_isLeast_X7_turned rfl rfl rfl (by decide +kernel) ⟨Nat.le_of_ble_eq_true rfl, Nat.le_of_ble_eq_true rfl⟩) ⟨fun a U g mk q => q, fun U hU hW => ⟨rfl, trivial⟩⟩ rfl rfl hl.1 rfl (lv_room (Nat.le_of_ble_eq_true rfl)) dX7_isLeast_108 ⟨Nat.le_of_ble_eq_true rfl, Nat.le_of_ble_eq_true rfl⟩).run (fun r hr108 => ?_)
                  obtain rfl := hr108
                  refine n_re (e2 := TW n a (τ.testBit 0) (τ.testBit 2) (τ.testBit 4)) (by rw [tb_t k4 c101]; exact TW_2 n _ _ _) ?_
                  refine lv_goto (tgt := 116) hx hb dX7_isLeast_111 (by decide) ?_
                  refine lv_lstore (lv' := [(4, .long (lN (TW n a (τ.testBit 0) (τ.testBit 2) (τ.testBit 4)))), (0, .int (zI (n))), (1, .int (zI (a))), (2, .int (zI (b))), (3, .int (zI (τ))), (6, .long (lN (TW n b (τ.testBit 1) (τ.testBit 3) false)))]) hx hb dX7_isLeast_116 hl (by decide) rfl (fun ls hl => ?_)
                  exact lp118    _ (lv_sub hl [1, 2, 3, 4, 0, 5] rfl)
              refine lv_iload_n hx hb dX7_isLeast_76 rfl (lv_at hl 3 rfl) ?_
              refine lv_bipush (v := zI 8) hx hb dX7_isLeast_77 (by decide +kernel) ?_
              refine n_iand hx hb (a := τ) (b := 8) dX7_isLeast_79 ?_
              refine z_if_le (tgt := 93) hx hb dX7_isLeast_80 (by decide) (by have z := k3; have y := tbn_lt (τ.testBit 3); have w := Bool.toNat_le (τ.testBit 3); omega) (fun c80 => ?_) (fun c80 => ?_)
              · refine lv_lload hx hb dX7_isLeast_93 (lv_at hl 5 rfl) ?_
                refine n_re (e2 := TW n b (τ.testBit 1) (τ.testBit 3) false) (by rw [tb_f k3 (by decide) c80]) ?_
                refine lv_lstore (lv' := [(6, .long (lN (TW n b (τ.testBit 1) (τ.testBit 3) false))), (0, .int (zI (n))), (1, .int (zI (a))), (2, .int (zI (b))), (3, .int (zI (τ))), (4, .long (lN (TW n a (τ.testBit 0) (τ.testBit 2) false)))]) hx hb dX7_isLeast_95 hl (by decide) rfl (fun ls hl => ?_)
                exact lp97    _ (lv_sub hl [1, 2, 3, 4, 5, 0] rfl)
              · refine lv_iload_n hx hb dX7_isLeast_83 rfl (lv_at hl 0 rfl) ?_
                refine lv_lload hx hb dX7_isLeast_84 (lv_at hl 5 rfl) ?_
                refine lv_iconst (v := zI 1) hx hb dX7_isLeast_86 rfl ?_
                refine z_re (e2 := ((1 : Nat) : Int)) (rfl) ?_
                refine vp_callSl (va_runS (As := [.int (zI (n)), .long (lN (TW n b (τ.testBit 1) false false)), .int (zI (((1 : Nat) : Int)))]) (rest := []) ⟨hx, hb, hml, hown, hts⟩ (c_X7_turned l n (TW n b (τ.testBit 1) false false) 1 (by omega) (lt32 (TW_lt _ _ _ _ _) (by omega)) (by decide)) (va_cwS 3 hts gX7_isLeast_X7_turned rfl rfl rfl (by decide +kernel) ⟨Nat.le_of_ble_eq_true rfl, Nat.le_of_ble_eq_true rfl⟩) ⟨fun a U g mk q => q, fun U hU hW => ⟨rfl, trivial⟩⟩ rfl rfl hl.1 rfl (lv_room (Nat.le_of_ble_eq_true rfl)) dX7_isLeast_87 ⟨Nat.le_of_ble_eq_true rfl, Nat.le_of_ble_eq_true rfl⟩).run (fun r hr87 => ?_)
                obtain rfl := hr87
                refine n_re (e2 := TW n b (τ.testBit 1) (τ.testBit 3) false) (by rw [tb_t k3 c80]; exact TW_1 n _ _) ?_
                refine lv_goto (tgt := 95) hx hb dX7_isLeast_90 (by decide) ?_
                refine lv_lstore (lv' := [(6, .long (lN (TW n b (τ.testBit 1) (τ.testBit 3) false))), (0, .int (zI (n))), (1, .int (zI (a))), (2, .int (zI (b))), (3, .int (zI (τ))), (4, .long (lN (TW n a (τ.testBit 0) (τ.testBit 2) false)))]) hx hb dX7_isLeast_95 hl (by decide) rfl (fun ls hl => ?_)
                exact lp97    _ (lv_sub hl [1, 2, 3, 4, 5, 0] rfl)
            refine lv_iload_n hx hb dX7_isLeast_56 rfl (lv_at hl 3 rfl) ?_
            refine lv_iconst (v := zI 4) hx hb dX7_isLeast_57 rfl ?_
            refine n_iand hx hb (a := τ) (b := 4) dX7_isLeast_58 ?_
            refine z_if_le (tgt := 72) hx hb dX7_isLeast_59 (by decide) (by have z := k2; have y := tbn_lt (τ.testBit 2); have w := Bool.toNat_le (τ.testBit 2); omega) (fun c59 => ?_) (fun c59 => ?_)
            · refine lv_lload hx hb dX7_isLeast_72 (lv_at hl 4 rfl) ?_
              refine n_re (e2 := TW n a (τ.testBit 0) (τ.testBit 2) false) (by rw [tb_f k2 (by decide) c59]) ?_
              refine lv_lstore (lv' := [(4, .long (lN (TW n a (τ.testBit 0) (τ.testBit 2) false))), (0, .int (zI (n))), (1, .int (zI (a))), (2, .int (zI (b))), (3, .int (zI (τ))), (6, .long (lN (TW n b (τ.testBit 1) false false)))]) hx hb dX7_isLeast_74 hl (by decide) rfl (fun ls hl => ?_)
              exact lp76    _ (lv_sub hl [1, 2, 3, 4, 0, 5] rfl)
            · refine lv_iload_n hx hb dX7_isLeast_62 rfl (lv_at hl 0 rfl) ?_
              refine lv_lload hx hb dX7_isLeast_63 (lv_at hl 4 rfl) ?_
              refine lv_iconst (v := zI 1) hx hb dX7_isLeast_65 rfl ?_
              refine z_re (e2 := ((1 : Nat) : Int)) (rfl) ?_
              refine vp_callSl (va_runS (As := [.int (zI (n)), .long (lN (TW n a (τ.testBit 0) false false)), .int (zI (((1 : Nat) : Int)))]) (rest := []) ⟨hx, hb, hml, hown, hts⟩ (c_X7_turned l n (TW n a (τ.testBit 0) false false) 1 (by omega) (lt32 (TW_lt _ _ _ _ _) (by omega)) (by decide)) (va_cwS 3 hts gX7_isLeast_X7_turned rfl rfl rfl (by decide +kernel) ⟨Nat.le_of_ble_eq_true rfl, Nat.le_of_ble_eq_true rfl⟩) ⟨fun a U g mk q => q, fun U hU hW => ⟨rfl, trivial⟩⟩ rfl rfl hl.1 rfl (lv_room (Nat.le_of_ble_eq_true rfl)) dX7_isLeast_66 ⟨Nat.le_of_ble_eq_true rfl, Nat.le_of_ble_eq_true rfl⟩).run (fun r hr66 => ?_)
              obtain rfl := hr66
              refine n_re (e2 := TW n a (τ.testBit 0) (τ.testBit 2) false) (by rw [tb_t k2 c59]; exact TW_1 n _ _) ?_
              refine lv_goto (tgt := 74) hx hb dX7_isLeast_69 (by decide) ?_
              refine lv_lstore (lv' := [(4, .long (lN (TW n a (τ.testBit 0) (τ.testBit 2) false))), (0, .int (zI (n))), (1, .int (zI (a))), (2, .int (zI (b))), (3, .int (zI (τ))), (6, .long (lN (TW n b (τ.testBit 1) false false)))]) hx hb dX7_isLeast_74 hl (by decide) rfl (fun ls hl => ?_)
              exact lp76    _ (lv_sub hl [1, 2, 3, 4, 0, 5] rfl)
          refine lv_iload_n hx hb dX7_isLeast_36 rfl (lv_at hl 3 rfl) ?_
          refine lv_iconst (v := zI 2) hx hb dX7_isLeast_37 rfl ?_
          refine n_iand hx hb (a := τ) (b := 2) dX7_isLeast_38 ?_
          refine z_if_le (tgt := 52) hx hb dX7_isLeast_39 (by decide) (by have z := k1; have y := tbn_lt (τ.testBit 1); have w := Bool.toNat_le (τ.testBit 1); omega) (fun c39 => ?_) (fun c39 => ?_)
          · refine lv_lload hx hb dX7_isLeast_52 (lv_at hl 5 rfl) ?_
            refine n_re (e2 := TW n b (τ.testBit 1) false false) (by rw [tb_f k1 (by decide) c39]; exact TW_x gb) ?_
            refine lv_lstore (lv' := [(6, .long (lN (TW n b (τ.testBit 1) false false))), (0, .int (zI (n))), (1, .int (zI (a))), (2, .int (zI (b))), (3, .int (zI (τ))), (4, .long (lN (TW n a (τ.testBit 0) false false)))]) hx hb dX7_isLeast_54 hl (by decide) rfl (fun ls hl => ?_)
            exact lp56    _ (lv_sub hl [1, 2, 3, 4, 5, 0] rfl)
          · refine lv_iload_n hx hb dX7_isLeast_42 rfl (lv_at hl 0 rfl) ?_
            refine lv_lload hx hb dX7_isLeast_43 (lv_at hl 5 rfl) ?_
            refine lv_iconst (v := zI 0) hx hb dX7_isLeast_45 rfl ?_
            refine z_re (e2 := ((0 : Nat) : Int)) (rfl) ?_
            refine vp_callSl (va_runS (As := [.int (zI (n)), .long (lN (b)), .int (zI (((0 : Nat) : Int)))]) (rest := []) ⟨hx, hb, hml, hown, hts⟩ (c_X7_turned l n (b) 0 (by omega) (by omega) (by decide)) (va_cwS 3 hts gX7_isLeast_X7_turned rfl rfl rfl (by decide +kernel) ⟨Nat.le_of_ble_eq_true rfl, Nat.le_of_ble_eq_true rfl⟩) ⟨fun a U g mk q => q, fun U hU hW => ⟨rfl, trivial⟩⟩ rfl rfl hl.1 rfl (lv_room (Nat.le_of_ble_eq_true rfl)) dX7_isLeast_46 ⟨Nat.le_of_ble_eq_true rfl, Nat.le_of_ble_eq_true rfl⟩).run (fun r hr46 => ?_)
            obtain rfl := hr46
            refine n_re (e2 := TW n b (τ.testBit 1) false false) (by rw [tb_t k1 c39]; exact TW_00 gb) ?_
            refine lv_goto (tgt := 54) hx hb dX7_isLeast_49 (by decide) ?_
            refine lv_lstore (lv' := [(6, .long (lN (TW n b (τ.testBit 1) false false))), (0, .int (zI (n))), (1, .int (zI (a))), (2, .int (zI (b))), (3, .int (zI (τ))), (4, .long (lN (TW n a (τ.testBit 0) false false)))]) hx hb dX7_isLeast_54 hl (by decide) rfl (fun ls hl => ?_)
            exact lp56    _ (lv_sub hl [1, 2, 3, 4, 5, 0] rfl)
        refine lv_iload_n hx hb dX7_isLeast_16 rfl (lv_at hl 5 rfl) ?_
        refine lv_iconst (v := zI 1) hx hb dX7_isLeast_17 rfl ?_
        refine n_iand hx hb (a := τ) (b := 1) dX7_isLeast_18 ?_
        refine z_if_le (tgt := 32) hx hb dX7_isLeast_19 (by decide) (by have z := k0; have y := tbn_lt (τ.testBit 0); have w := Bool.toNat_le (τ.testBit 0); omega) (fun c19 => ?_) (fun c19 => ?_)
        · refine lv_lload hx hb dX7_isLeast_32 (lv_at hl 1 rfl) ?_
          refine n_re (e2 := TW n a (τ.testBit 0) false false) (by rw [tb_f k0 (by decide) c19]; exact TW_x ga) ?_
          refine lv_lstore (lv' := [(4, .long (lN (TW n a (τ.testBit 0) false false))), (6, .long (lN (b))), (0, .int (zI (n))), (1, .int (zI (a))), (2, .int (zI (b))), (3, .int (zI (τ)))]) hx hb dX7_isLeast_34 hl (by decide) rfl (fun ls hl => ?_)
          exact lp36    _ (lv_sub hl [2, 3, 4, 5, 0, 1] rfl)
        · refine lv_iload_n hx hb dX7_isLeast_22 rfl (lv_at hl 2 rfl) ?_
          refine lv_lload hx hb dX7_isLeast_23 (lv_at hl 1 rfl) ?_
          refine lv_iconst (v := zI 0) hx hb dX7_isLeast_25 rfl ?_
          refine z_re (e2 := ((0 : Nat) : Int)) (rfl) ?_
          refine vp_callSl (va_runS (As := [.int (zI (n)), .long (lN (a)), .int (zI (((0 : Nat) : Int)))]) (rest := []) ⟨hx, hb, hml, hown, hts⟩ (c_X7_turned l n (a) 0 (by omega) (by omega) (by decide)) (va_cwS 3 hts gX7_isLeast_X7_turned rfl rfl rfl (by decide +kernel) ⟨Nat.le_of_ble_eq_true rfl, Nat.le_of_ble_eq_true rfl⟩) ⟨fun a U g mk q => q, fun U hU hW => ⟨rfl, trivial⟩⟩ rfl rfl hl.1 rfl (lv_room (Nat.le_of_ble_eq_true rfl)) dX7_isLeast_26 ⟨Nat.le_of_ble_eq_true rfl, Nat.le_of_ble_eq_true rfl⟩).run (fun r hr26 => ?_)
          obtain rfl := hr26
          refine n_re (e2 := TW n a (τ.testBit 0) false false) (by rw [tb_t k0 c19]; exact TW_00 ga) ?_
          refine lv_goto (tgt := 34) hx hb dX7_isLeast_29 (by decide) ?_
          refine lv_lstore (lv' := [(4, .long (lN (TW n a (τ.testBit 0) false false))), (6, .long (lN (b))), (0, .int (zI (n))), (1, .int (zI (a))), (2, .int (zI (b))), (3, .int (zI (τ)))]) hx hb dX7_isLeast_34 hl (by decide) rfl (fun ls hl => ?_)
          exact lp36    _ (lv_sub hl [2, 3, 4, 5, 0, 1] rfl)
  exact lp2 _ (0) (by omega) (fun i hi => absurd hi (Nat.not_lt_zero i)) (Nat.lt_succ_self _) _ (lv_sub hl [1, 2, 3, 0] rfl)
