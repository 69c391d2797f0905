/-! ints and longs as integers -/
def zI (e : Int) : Int32 := Int32.ofInt e
def zL (e : Int) : Int64 := Int64.ofInt e
def bI (b : Bool) : Int := if b then 1 else 0
theorem bI_t {b : Bool} (h : ¬ bI b = 0) : b = true := by cases b <;> simp_all [bI]
theorem bI_f {b : Bool} (h : bI b = 0) : b = false := by cases b <;> simp_all [bI]
theorem bI_01 (b : Bool) : 0 ≤ bI b ∧ bI b ≤ 1 := by cases b <;> simp [bI]
theorem bI_c {b : Bool} {P : Prop} (h : b = true ↔ P) : (bI b = 0 ↔ ¬ P) ∧ (¬ bI b = 0 ↔ P) := by cases b <;> simp_all [bI]
theorem zI_toInt {e : Int} (h : -2147483648 ≤ e ∧ e < 2147483648) : (zI e).toInt = e := Int32.toInt_ofInt_of_le (by omega) (by omega)
theorem zL_toInt {e : Int} (h : -9223372036854775808 ≤ e ∧ e < 9223372036854775808) : (zL e).toInt = e := Int64.toInt_ofInt_of_le (by omega) (by omega)
theorem zI_as (x : Int32) : x = zI x.toInt := (Int32.ofInt_toInt x).symm
theorem zL_as (x : Int64) : x = zL x.toInt := (Int64.ofInt_toInt x).symm
theorem zI_rng (x : Int32) : -2147483648 ≤ x.toInt ∧ x.toInt < 2147483648 := ⟨by have := Int32.le_toInt x; omega, by have := Int32.toInt_lt x; omega⟩
theorem zL_rng (x : Int64) : -9223372036854775808 ≤ x.toInt ∧ x.toInt < 9223372036854775808 := ⟨by have := Int64.le_toInt x; omega, by have := Int64.toInt_lt x; omega⟩
theorem zI_nI (n : Nat) : nI n = zI n := (Int32.ofInt_eq_ofNat (n := n)).symm
theorem zL_lN (n : Nat) : lN n = zL n := (Int64.ofInt_eq_ofNat (n := n)).symm
theorem lN_toI {n : Nat} (h : n < 9223372036854775808) : (lN n).toInt = (n : Int) := by rw [zL_lN, zL_toInt (by omega)]
theorem zI_le {a b : Int} (ha : -2147483648 ≤ a ∧ a < 2147483648) (hb : -2147483648 ≤ b ∧ b < 2147483648) : zI a ≤ zI b ↔ a ≤ b := by rw [Int32.le_iff_toInt_le, zI_toInt ha, zI_toInt hb]
theorem zI_lt {a b : Int} (ha : -2147483648 ≤ a ∧ a < 2147483648) (hb : -2147483648 ≤ b ∧ b < 2147483648) : zI a < zI b ↔ a < b := by rw [Int32.lt_iff_toInt_lt, zI_toInt ha, zI_toInt hb]
theorem zI_eq {a b : Int} (ha : -2147483648 ≤ a ∧ a < 2147483648) (hb : -2147483648 ≤ b ∧ b < 2147483648) : zI a = zI b ↔ a = b := by rw [← Int32.toInt_inj, zI_toInt ha, zI_toInt hb]
theorem zI_0 : zI 0 = 0 := rfl
theorem zI_cl {a : Int} (ha : -2147483648 ≤ a ∧ a < 2147483648) : (zI a).toNatClampNeg = a.toNat := Int32.toNatClampNeg_ofInt_of_le (by omega) (by omega)
theorem zI_in {a : Int} {n : Nat} (h : 0 ≤ a ∧ a < n) (hn : n < 2147483648) : vp_in (zI a) n := vp_in_iff.mpr (by rw [zI_toInt (by omega)]; exact h)
theorem nnI (n : Nat) : nI n = zI (n : Int) := zI_nI n
def zF (F : Nat → Int) : Nat → Int32 := fun j => zI (F j)
def lF (G : Nat → Nat) : Nat → Int64 := fun j => lN (G j)
theorem zF_up (F : Nat → Int) (k : Nat) (v : Int) : upd (zF F) k (zI v) = zF (va_up F k v) := by
  funext j
  simp only [upd, zF, va_up]
  by_cases h : j = k <;> simp [h]
theorem lF_up (G : Nat → Nat) (k : Nat) (v : Nat) : vp_updL (lF G) k (lN v) = lF (va_up G k v) := by
  funext j
  simp only [vp_updL, lF, va_up]
  by_cases h : j = k <;> simp [h]
theorem lN_andL (a b : Nat) : lN a &&& lN b = lN (a &&& b) := by
  apply Int64.toBitVec_inj.1
  show BitVec.ofNat 64 a &&& BitVec.ofNat 64 b = BitVec.ofNat 64 (a &&& b)
  simp
theorem lN_orL (a b : Nat) : lN a ||| lN b = lN (a ||| b) := by
  apply Int64.toBitVec_inj.1
  show BitVec.ofNat 64 a ||| BitVec.ofNat 64 b = BitVec.ofNat 64 (a ||| b)
  simp
theorem lN_xorL (a b : Nat) : lN a ^^^ lN b = lN (a ^^^ b) := by
  apply Int64.toBitVec_inj.1
  show BitVec.ofNat 64 a ^^^ BitVec.ofNat 64 b = BitVec.ofNat 64 (a ^^^ b)
  simp
theorem lN_shc : ∀ k, k < 64 → ((nI k).toInt64 &&& 63) = lN k := by decide +kernel
theorem lN_shu : ∀ k, k < 64 → ((nI k).toInt64.toUInt64 &&& Int64.toUInt64 63) = UInt64.ofNat k := by decide +kernel
theorem lN_shm : ∀ k, k < 64 → (BitVec.ofNat 64 k).smod 64 = BitVec.ofNat 64 k := by decide +kernel
theorem lN_shl (n : Nat) {k : Nat} (hk : k < 64) : lN n <<< ((zI (k : Int)).toInt64 &&& 63) = lN (n <<< k) := by
  rw [← zI_nI, lN_shc k hk]
  apply Int64.toBitVec_inj.1
  rw [Int64.toBitVec_shiftLeft]
  show BitVec.ofNat 64 n <<< ((BitVec.ofNat 64 k).smod 64) = BitVec.ofNat 64 (n <<< k)
  rw [lN_shm k hk]
  apply BitVec.eq_of_toNat_eq
  rw [BitVec.shiftLeft_eq', BitVec.toNat_shiftLeft, BitVec.toNat_ofNat, BitVec.toNat_ofNat, BitVec.toNat_ofNat, Nat.mod_eq_of_lt (show k < 2 ^ 64 by omega), Nat.shiftLeft_eq, Nat.shiftLeft_eq, Nat.mul_mod, Nat.mod_mod, ← Nat.mul_mod]
theorem lN_ushr {n k : Nat} (hn : n < 18446744073709551616) (hk : k < 64) : ((lN n).toUInt64 >>> ((zI (k : Int)).toInt64.toUInt64 &&& Int64.toUInt64 63)).toInt64 = lN (n >>> k) := by
  rw [← zI_nI, lN_shu k hk]
  apply Int64.toBitVec_inj.1
  apply BitVec.eq_of_toNat_eq
  show ((lN n).toUInt64 >>> UInt64.ofNat k).toNat = (BitVec.ofNat 64 _).toNat
  have h1 : (UInt64.ofNat k).toNat = k := by
    show (BitVec.ofNat 64 k).toNat = k
    rw [BitVec.toNat_ofNat, Nat.mod_eq_of_lt (by omega)]
  have h2 : (lN n).toUInt64.toNat = n := by
    show (BitVec.ofNat 64 n).toNat = n
    rw [BitVec.toNat_ofNat, Nat.mod_eq_of_lt (by omega)]
  rw [UInt64.toNat_shiftRight, h1, h2, Nat.mod_eq_of_lt hk, BitVec.toNat_ofNat, Nat.mod_eq_of_lt]
  rw [Nat.shiftRight_eq_div_pow]
  exact Nat.lt_of_le_of_lt (Nat.div_le_self _ _) hn
theorem lN_shr {n k : Nat} (hn : n < 9223372036854775808) (hk : k < 64) : lN n >>> ((zI (k : Int)).toInt64 &&& 63) = lN (n >>> k) := by
  have hd : n >>> k ≤ n := Nat.shiftRight_le n k
  rw [← zI_nI, lN_shc k hk]
  apply Int64.toInt_inj.mp
  have hk' : ((lN k).toBitVec.smod 64).toNat = k := by
    show ((BitVec.ofNat 64 k).smod 64).toNat = k
    rw [lN_shm k hk, BitVec.toNat_ofNat, Nat.mod_eq_of_lt (by omega)]
  have e : (lN n >>> lN k).toInt = (lN n).toInt >>> k := by
    show ((lN n).toBitVec.sshiftRight ((lN k).toBitVec.smod 64).toNat).toInt = (lN n).toBitVec.toInt >>> k
    rw [hk', BitVec.toInt_sshiftRight]
  rw [e, Int.shiftRight_eq_div_pow, lN_toI (by omega), lN_toI (by omega), Nat.shiftRight_eq_div_pow]
  rfl
theorem lN_subL {a b : Nat} (h : b ≤ a) : lN a - lN b = lN (a - b) := lN_sub h
theorem zI_shl (a : Int) {k : Nat} (hk : k < 32) : zI a <<< (zI (k : Int) &&& 31) = zI (a * 2 ^ k) := by
  have hs : ∀ k, k < 32 → (zI ((k : Nat) : Int) &&& 31).toBitVec.smod 32 = BitVec.ofNat 32 k := by decide +kernel
  have ht : ∀ k, k < 32 → BitVec.twoPow 32 k = BitVec.ofInt 32 (2 ^ k) := by decide +kernel
  apply Int32.toBitVec_inj.1
  rw [Int32.toBitVec_shiftLeft, hs k hk]
  show BitVec.ofInt 32 a <<< BitVec.ofNat 32 k = BitVec.ofInt 32 (a * 2 ^ k)
  rw [BitVec.shiftLeft_eq', BitVec.toNat_ofNat, Nat.mod_eq_of_lt (show k < 2 ^ 32 by omega), BitVec.shiftLeft_eq_mul_twoPow, BitVec.ofInt_mul, ht k hk]
theorem nI_andI (a b : Nat) : nI a &&& nI b = nI (a &&& b) := by
  apply Int32.toBitVec_inj.1
  show BitVec.ofNat 32 a &&& BitVec.ofNat 32 b = BitVec.ofNat 32 (a &&& b)
  simp
theorem nI_orI (a b : Nat) : nI a ||| nI b = nI (a ||| b) := by
  apply Int32.toBitVec_inj.1
  show BitVec.ofNat 32 a ||| BitVec.ofNat 32 b = BitVec.ofNat 32 (a ||| b)
  simp
theorem zI_eq0 {a : Int} (ha : -2147483648 ≤ a ∧ a < 2147483648) : zI a = 0 ↔ a = 0 := zI_eq (b := 0) ha (by decide)
theorem zI_lt0 {a : Int} (ha : -2147483648 ≤ a ∧ a < 2147483648) : zI a < 0 ↔ a < 0 := zI_lt (b := 0) ha (by decide)
theorem zI_le0 {a : Int} (ha : -2147483648 ≤ a ∧ a < 2147483648) : zI a ≤ 0 ↔ a ≤ 0 := zI_le (b := 0) ha (by decide)
theorem zI_0lt {a : Int} (ha : -2147483648 ≤ a ∧ a < 2147483648) : 0 < zI a ↔ 0 < a := zI_lt (a := 0) (by decide) ha
theorem zI_0le {a : Int} (ha : -2147483648 ≤ a ∧ a < 2147483648) : 0 ≤ zI a ↔ 0 ≤ a := zI_le (a := 0) (by decide) ha
theorem zI_i2l {a : Int} (h : -2147483648 ≤ a ∧ a < 2147483648) : (zI a).toInt64 = zL a := Int32.toInt64_ofInt (by have q : Int32.minValue.toInt = -2147483648 := rfl; omega) (by have q : Int32.maxValue.toInt = 2147483647 := rfl; omega)
theorem zL_l2i (a : Int) : (zL a).toInt32 = zI a := Int64.toInt32_ofInt
theorem zI_div {a b : Int} (ha : 0 ≤ a ∧ a < 2147483648) (hb : 0 < b ∧ b < 2147483648) : zI a / zI b = zI (a / b) := by
  obtain ⟨a, rfl⟩ := Int.eq_ofNat_of_zero_le ha.1
  obtain ⟨b, rfl⟩ := Int.eq_ofNat_of_zero_le (Int.le_of_lt hb.1)
  rw [← zI_nI, ← zI_nI, pk_div (by omega) (by omega) (by omega), zI_nI]
  rfl
theorem zI_rem {a b : Int} (ha : 0 ≤ a ∧ a < 2147483648) (hb : 0 < b ∧ b < 2147483648) : zI a - zI a / zI b * zI b = zI (a % b) := by
  obtain ⟨a, rfl⟩ := Int.eq_ofNat_of_zero_le ha.1
  obtain ⟨b, rfl⟩ := Int.eq_ofNat_of_zero_le (Int.le_of_lt hb.1)
  rw [← zI_nI, ← zI_nI, pk_rem (by omega) (by omega) (by omega), zI_nI]
  rfl
theorem zI_ne0 {b : Int} (hb : 0 < b ∧ b < 2147483648) : ¬ zI b = 0 := by
  rw [← zI_0, zI_eq (by omega) (by omega)]
  omega
theorem lg_cmp_z {x y : Int64} {a b : Int} (hx : x.toInt = a) (hy : y.toInt = b) : lg_cmp x y = zI (if b < a then 1 else if a = b then 0 else -1) := by
  have h1 : y < x ↔ b < a := by rw [Int64.lt_iff_toInt_lt, hx, hy]
  have h2 : x = y ↔ a = b := by rw [← Int64.toInt_inj, hx, hy]
  unfold lg_cmp
  by_cases q1 : b < a
  · rw [if_pos (h1.mpr q1), if_pos q1]; rfl
  · rw [if_neg (fun z => q1 (h1.mp z)), if_neg q1]
    by_cases q2 : a = b
    · rw [if_pos (h2.mpr q2), if_pos q2]; rfl
    · rw [if_neg (fun z => q2 (h2.mp z)), if_neg q2]; rfl
theorem nI_ushr {a q : Nat} (ha : a < 4294967296) (hq : q < 32) : ((nI a).toUInt32 >>> ((nI q).toUInt32 &&& Int32.toUInt32 31)).toInt32 = nI (a >>> q) := by
  have h : ∀ q, q < 32 → (((nI q).toUInt32 &&& Int32.toUInt32 31).toBitVec % 32).toNat = q := by decide +kernel
  rw [Nat.shiftRight_eq_div_pow]
  exact pk_ushrN (by omega) (nI q) q (h q hq)
theorem zI_incr {e n e2 : Int} (h : e + n = e2) : zI e + Int32.ofInt n = zI e2 := by subst h; exact (Int32.ofInt_add e n).symm
def bP (P : Prop) [Decidable P] : Int := if P then 1 else 0
theorem bP_1 {P : Prop} [Decidable P] (h : P) : bP P = 1 := if_pos h
theorem bP_0 {P : Prop} [Decidable P] (h : ¬ P) : bP P = 0 := if_neg h
theorem bP_rng (P : Prop) [Decidable P] : -2147483648 ≤ bP P ∧ bP P < 2147483648 := by unfold bP; split <;> omega
theorem bP_t {P : Prop} [Decidable P] (h : ¬ bP P = 0) : P := by
  by_cases q : P
  · exact q
  · exact absurd (bP_0 q) h
theorem bP_f {P : Prop} [Decidable P] (h : bP P = 0) : ¬ P := fun q => by rw [bP_1 q] at h; cases h
theorem bP_or (P : Prop) [Decidable P] : zI (bP P) = 0 ∨ zI (bP P) = 1 := by
  by_cases q : P
  · exact Or.inr (by rw [bP_1 q]; rfl)
  · exact Or.inl (by rw [bP_0 q]; rfl)
theorem bP_cg {P Q : Prop} [Decidable P] [Decidable Q] (h : P ↔ Q) : bP P = bP Q := by
  by_cases q : P
  · rw [bP_1 q, bP_1 (h.mp q)]
  · rw [bP_0 q, bP_0 (fun z => q (h.mpr z))]
theorem nar_b (v : Int32) (h : v = 0 ∨ v = 1) : narrow .boolean (.int v) = .int v := by rcases h with rfl | rfl <;> rfl
abbrev TY (t : Nat → ClassId) : List (ClassId × FieldType) := [(t 0, .int), (t 1, .long), (t 2, .boolean), (t 3, .object "CancelRows$Sheet"), (t 4, .object "CancelRows$PairList"), (t 5, .object "CancelRows$BestRows"), (t 6, .object "java/lang/Object")]
section ZR
variable {p : Program} {l : Launch} {e : Env} {R : Room} {s : State} {m : MethodId} {args : Array Value} {below : List Frame} {meth : Method} {c : Code} {H : Heap} {locs : List Loc} {cells slots : Nat} {Q : State → Prop}
variable {cc : ByteArray} {pc : Nat} {ls : Array Slot} {rest : List Value}
theorem z_iadd (hexec : p.tables.exec = Jvm.exec) (hb : c.code = cc) {a b : Int} (hdg : decode cc pc = .ok (.iadd, 1))
    (k : W p l e R s m args below meth c H locs cells slots Q (F0 m (pc + 1) ls (.int (zI (a + b)) :: rest))) : W p l e R s m args below meth c H locs cells slots Q (F0 m (pc) ls (.int (zI b) :: .int (zI a) :: rest)) := by
  exact lv_iadd hexec hb hdg (by rw [show zI a + zI b = zI (a + b) from (Int32.ofInt_add a b).symm]; exact k)
theorem z_isub (hexec : p.tables.exec = Jvm.exec) (hb : c.code = cc) {a b : Int} (hdg : decode cc pc = .ok (.isub, 1))
    (k : W p l e R s m args below meth c H locs cells slots Q (F0 m (pc + 1) ls (.int (zI (a - b)) :: rest))) : W p l e R s m args below meth c H locs cells slots Q (F0 m (pc) ls (.int (zI b) :: .int (zI a) :: rest)) := by
  exact lv_isub hexec hb hdg (by rw [show zI a - zI b = zI (a - b) from (Int32.ofInt_sub a b).symm]; exact k)
theorem z_imul (hexec : p.tables.exec = Jvm.exec) (hb : c.code = cc) {a b : Int} (hdg : decode cc pc = .ok (.imul, 1))
    (k : W p l e R s m args below meth c H locs cells slots Q (F0 m (pc + 1) ls (.int (zI (a * b)) :: rest))) : W p l e R s m args below meth c H locs cells slots Q (F0 m (pc) ls (.int (zI b) :: .int (zI a) :: rest)) := by
  exact lv_imul hexec hb hdg (by rw [show zI a * zI b = zI (a * b) from (Int32.ofInt_mul a b).symm]; exact k)
theorem z_ladd (hexec : p.tables.exec = Jvm.exec) (hb : c.code = cc) {a b : Int} (hdg : decode cc pc = .ok (.ladd, 1))
    (k : W p l e R s m args below meth c H locs cells slots Q (F0 m (pc + 1) ls (.long (zL (a + b)) :: rest))) : W p l e R s m args below meth c H locs cells slots Q (F0 m (pc) ls (.long (zL b) :: .long (zL a) :: rest)) := by
  exact lv_ladd hexec hb hdg (by rw [show zL a + zL b = zL (a + b) from (Int64.ofInt_add a b).symm]; exact k)
theorem z_lsub (hexec : p.tables.exec = Jvm.exec) (hb : c.code = cc) {a b : Int} (hdg : decode cc pc = .ok (.lsub, 1))
    (k : W p l e R s m args below meth c H locs cells slots Q (F0 m (pc + 1) ls (.long (zL (a - b)) :: rest))) : W p l e R s m args below meth c H locs cells slots Q (F0 m (pc) ls (.long (zL b) :: .long (zL a) :: rest)) := by
  exact lv_lsub hexec hb hdg (by rw [show zL a - zL b = zL (a - b) from (Int64.ofInt_sub a b).symm]; exact k)
theorem z_lmul (hexec : p.tables.exec = Jvm.exec) (hb : c.code = cc) {a b : Int} (hdg : decode cc pc = .ok (.lmul, 1))
    (k : W p l e R s m args below meth c H locs cells slots Q (F0 m (pc + 1) ls (.long (zL (a * b)) :: rest))) : W p l e R s m args below meth c H locs cells slots Q (F0 m (pc) ls (.long (zL b) :: .long (zL a) :: rest)) := by
  exact lv_lmul hexec hb hdg (by rw [show zL a * zL b = zL (a * b) from (Int64.ofInt_mul a b).symm]; exact k)
theorem z_ineg (hexec : p.tables.exec = Jvm.exec) (hb : c.code = cc) {a : Int} (hdg : decode cc pc = .ok (.ineg, 1))
    (k : W p l e R s m args below meth c H locs cells slots Q (F0 m (pc + 1) ls (.int (zI (-a)) :: rest))) : W p l e R s m args below meth c H locs cells slots Q (F0 m (pc) ls (.int (zI a) :: rest)) := by
  exact lv_ineg hexec hb hdg (by rw [show -zI a = zI (-a) from (Int32.ofInt_neg a).symm]; exact k)
theorem z_ishl (hexec : p.tables.exec = Jvm.exec) (hb : c.code = cc) {a : Int} {q : Nat} (hq : q < 32) (hdg : decode cc pc = .ok (.ishl, 1))
    (k : W p l e R s m args below meth c H locs cells slots Q (F0 m (pc + 1) ls (.int (zI (a * 2 ^ q)) :: rest))) : W p l e R s m args below meth c H locs cells slots Q (F0 m (pc) ls (.int (zI (q : Int)) :: .int (zI a) :: rest)) := by
  exact lv_ishl hexec hb hdg (by rw [zI_shl a hq]; exact k)
theorem z_idiv (hexec : p.tables.exec = Jvm.exec) (hb : c.code = cc) {a b : Int} (ha : 0 ≤ a ∧ a < 2147483648) (hb2 : 0 < b ∧ b < 2147483648) (hdg : decode cc pc = .ok (.idiv, 1))
    (k : W p l e R s m args below meth c H locs cells slots Q (F0 m (pc + 1) ls (.int (zI (a / b)) :: rest))) : W p l e R s m args below meth c H locs cells slots Q (F0 m (pc) ls (.int (zI b) :: .int (zI a) :: rest)) := by
  exact lv_idiv hexec hb hdg (zI_ne0 hb2) (by rw [zI_div ha hb2]; exact k)
theorem z_irem (hexec : p.tables.exec = Jvm.exec) (hb : c.code = cc) {a b : Int} (ha : 0 ≤ a ∧ a < 2147483648) (hb2 : 0 < b ∧ b < 2147483648) (hdg : decode cc pc = .ok (.irem, 1))
    (k : W p l e R s m args below meth c H locs cells slots Q (F0 m (pc + 1) ls (.int (zI (a % b)) :: rest))) : W p l e R s m args below meth c H locs cells slots Q (F0 m (pc) ls (.int (zI b) :: .int (zI a) :: rest)) := by
  exact lv_irem hexec hb hdg (zI_ne0 hb2) (by rw [zI_rem ha hb2]; exact k)
theorem z_i2l (hexec : p.tables.exec = Jvm.exec) (hb : c.code = cc) {a : Int} (ha : -2147483648 ≤ a ∧ a < 2147483648) (hdg : decode cc pc = .ok (.i2l, 1))
    (k : W p l e R s m args below meth c H locs cells slots Q (F0 m (pc + 1) ls (.long (zL a) :: rest))) : W p l e R s m args below meth c H locs cells slots Q (F0 m (pc) ls (.int (zI a) :: rest)) := by
  exact lv_i2l hexec hb hdg (zI_i2l ha) k
theorem n_i2l (hexec : p.tables.exec = Jvm.exec) (hb : c.code = cc) {a : Nat} (ha : a < 2147483648) (hdg : decode cc pc = .ok (.i2l, 1))
    (k : W p l e R s m args below meth c H locs cells slots Q (F0 m (pc + 1) ls (.long (lN a) :: rest))) : W p l e R s m args below meth c H locs cells slots Q (F0 m (pc) ls (.int (zI (a : Int)) :: rest)) := by
  exact lv_i2l hexec hb hdg (by rw [zL_lN]; exact zI_i2l (by omega)) k
theorem z_l2i (hexec : p.tables.exec = Jvm.exec) (hb : c.code = cc) {a : Int} (hdg : decode cc pc = .ok (.l2i, 1))
    (k : W p l e R s m args below meth c H locs cells slots Q (F0 m (pc + 1) ls (.int (zI a) :: rest))) : W p l e R s m args below meth c H locs cells slots Q (F0 m (pc) ls (.long (zL a) :: rest)) := by
  exact lv_l2i hexec hb hdg (zL_l2i a) k
theorem n_l2i (hexec : p.tables.exec = Jvm.exec) (hb : c.code = cc) {a : Nat} (hdg : decode cc pc = .ok (.l2i, 1))
    (k : W p l e R s m args below meth c H locs cells slots Q (F0 m (pc + 1) ls (.int (zI (a : Int)) :: rest))) : W p l e R s m args below meth c H locs cells slots Q (F0 m (pc) ls (.long (lN a) :: rest)) := by
  exact lv_l2i hexec hb hdg (by rw [zL_lN]; exact zL_l2i _) k
theorem n_land (hexec : p.tables.exec = Jvm.exec) (hb : c.code = cc) {a b : Nat} (hdg : decode cc pc = .ok (.land, 1))
    (k : W p l e R s m args below meth c H locs cells slots Q (F0 m (pc + 1) ls (.long (lN (a &&& b)) :: rest))) : W p l e R s m args below meth c H locs cells slots Q (F0 m (pc) ls (.long (lN b) :: .long (lN a) :: rest)) := by
  exact lv_land hexec hb hdg (by rw [lN_andL]; exact k)
theorem n_lor (hexec : p.tables.exec = Jvm.exec) (hb : c.code = cc) {a b : Nat} (hdg : decode cc pc = .ok (.lor, 1))
    (k : W p l e R s m args below meth c H locs cells slots Q (F0 m (pc + 1) ls (.long (lN (a ||| b)) :: rest))) : W p l e R s m args below meth c H locs cells slots Q (F0 m (pc) ls (.long (lN b) :: .long (lN a) :: rest)) := by
  exact lv_lor hexec hb hdg (by rw [lN_orL]; exact k)
theorem n_lxor (hexec : p.tables.exec = Jvm.exec) (hb : c.code = cc) {a b : Nat} (hdg : decode cc pc = .ok (.lxor, 1))
    (k : W p l e R s m args below meth c H locs cells slots Q (F0 m (pc + 1) ls (.long (lN (a ^^^ b)) :: rest))) : W p l e R s m args below meth c H locs cells slots Q (F0 m (pc) ls (.long (lN b) :: .long (lN a) :: rest)) := by
  exact lv_lxor hexec hb hdg (by rw [lN_xorL]; exact k)
theorem n_iand (hexec : p.tables.exec = Jvm.exec) (hb : c.code = cc) {a b : Nat} (hdg : decode cc pc = .ok (.iand, 1))
    (k : W p l e R s m args below meth c H locs cells slots Q (F0 m (pc + 1) ls (.int (zI ((a &&& b : Nat) : Int)) :: rest))) : W p l e R s m args below meth c H locs cells slots Q (F0 m (pc) ls (.int (zI (b : Int)) :: .int (zI (a : Int)) :: rest)) := by
  exact lv_iand hexec hb hdg (by rw [← zI_nI, ← zI_nI, nI_andI, zI_nI]; exact k)
theorem n_ior (hexec : p.tables.exec = Jvm.exec) (hb : c.code = cc) {a b : Nat} (hdg : decode cc pc = .ok (.ior, 1))
    (k : W p l e R s m args below meth c H locs cells slots Q (F0 m (pc + 1) ls (.int (zI ((a ||| b : Nat) : Int)) :: rest))) : W p l e R s m args below meth c H locs cells slots Q (F0 m (pc) ls (.int (zI (b : Int)) :: .int (zI (a : Int)) :: rest)) := by
  exact lv_ior hexec hb hdg (by rw [← zI_nI, ← zI_nI, nI_orI, zI_nI]; exact k)
theorem n_lshl (hexec : p.tables.exec = Jvm.exec) (hb : c.code = cc) {a q : Nat} (hq : q < 64) (hdg : decode cc pc = .ok (.lshl, 1))
    (k : W p l e R s m args below meth c H locs cells slots Q (F0 m (pc + 1) ls (.long (lN (a <<< q)) :: rest))) : W p l e R s m args below meth c H locs cells slots Q (F0 m (pc) ls (.int (zI (q : Int)) :: .long (lN a) :: rest)) := by
  exact lv_lshl hexec hb hdg (lN_shl a hq) k
theorem n_lushr (hexec : p.tables.exec = Jvm.exec) (hb : c.code = cc) {a q : Nat} (ha : a < 18446744073709551616) (hq : q < 64) (hdg : decode cc pc = .ok (.lushr, 1))
    (k : W p l e R s m args below meth c H locs cells slots Q (F0 m (pc + 1) ls (.long (lN (a >>> q)) :: rest))) : W p l e R s m args below meth c H locs cells slots Q (F0 m (pc) ls (.int (zI (q : Int)) :: .long (lN a) :: rest)) := by
  exact lv_lushr hexec hb hdg (lN_ushr ha hq) k
theorem n_lshr (hexec : p.tables.exec = Jvm.exec) (hb : c.code = cc) {a q : Nat} (ha : a < 9223372036854775808) (hq : q < 64) (hdg : decode cc pc = .ok (.lshr, 1))
    (k : W p l e R s m args below meth c H locs cells slots Q (F0 m (pc + 1) ls (.long (lN (a >>> q)) :: rest))) : W p l e R s m args below meth c H locs cells slots Q (F0 m (pc) ls (.int (zI (q : Int)) :: .long (lN a) :: rest)) := by
  exact lv_lshr hexec hb hdg (lN_shr ha hq) k
theorem n_ladd (hexec : p.tables.exec = Jvm.exec) (hb : c.code = cc) {a b : Nat} (hdg : decode cc pc = .ok (.ladd, 1))
    (k : W p l e R s m args below meth c H locs cells slots Q (F0 m (pc + 1) ls (.long (lN (a + b)) :: rest))) : W p l e R s m args below meth c H locs cells slots Q (F0 m (pc) ls (.long (lN b) :: .long (lN a) :: rest)) := by
  exact lv_ladd hexec hb hdg (by rw [lN_add]; exact k)
theorem n_lsub (hexec : p.tables.exec = Jvm.exec) (hb : c.code = cc) {a b : Nat} (h : b ≤ a) (hdg : decode cc pc = .ok (.lsub, 1))
    (k : W p l e R s m args below meth c H locs cells slots Q (F0 m (pc + 1) ls (.long (lN (a - b)) :: rest))) : W p l e R s m args below meth c H locs cells slots Q (F0 m (pc) ls (.long (lN b) :: .long (lN a) :: rest)) := by
  exact lv_lsub hexec hb hdg (by rw [lN_subL h]; exact k)
theorem z_icmp_eq (hexec : p.tables.exec = Jvm.exec) (hb : c.code = cc) {a b : Int} {off : Int} {tgt : Nat} (hdg : decode cc pc = .ok (.if_icmp .eq off, 3)) (ht : (pc : Int) + off = (tgt : Int)) (ha : -2147483648 ≤ a ∧ a < 2147483648) (hb2 : -2147483648 ≤ b ∧ b < 2147483648)
    (kt : a = b → W p l e R s m args below meth c H locs cells slots Q (F0 m (tgt) ls (rest))) (kf : ¬ a = b → W p l e R s m args below meth c H locs cells slots Q (F0 m (pc + 3) ls (rest))) : W p l e R s m args below meth c H locs cells slots Q (F0 m (pc) ls (.int (zI b) :: .int (zI a) :: rest)) :=
  lv_icmp_eq hexec hb hdg ht (fun z => kt ((zI_eq ha hb2).mp z)) (fun z => kf (fun y => z ((zI_eq ha hb2).mpr y)))
theorem z_if_eq (hexec : p.tables.exec = Jvm.exec) (hb : c.code = cc) {a : Int} {off : Int} {tgt : Nat} (hdg : decode cc pc = .ok (.ifCond .eq off, 3)) (ht : (pc : Int) + off = (tgt : Int)) (ha : -2147483648 ≤ a ∧ a < 2147483648)
    (kt : a = 0 → W p l e R s m args below meth c H locs cells slots Q (F0 m (tgt) ls (rest))) (kf : ¬ a = 0 → W p l e R s m args below meth c H locs cells slots Q (F0 m (pc + 3) ls (rest))) : W p l e R s m args below meth c H locs cells slots Q (F0 m (pc) ls (.int (zI a) :: rest)) :=
  lv_if_eq hexec hb hdg ht (fun z => kt ((zI_eq0 ha).mp z)) (fun z => kf (fun y => z ((zI_eq0 ha).mpr y)))
theorem z_lcmp_eq (hexec : p.tables.exec = Jvm.exec) (hb : c.code = cc) {x y : Int64} {a b : Int} {off : Int} {tgt : Nat} (hd1 : decode cc pc = .ok (.lcmp, 1)) (hdg : decode cc (pc + 1) = .ok (.ifCond .eq off, 3)) (ht : ((pc + 1 : Nat) : Int) + off = (tgt : Int)) (hx : x.toInt = a) (hy : y.toInt = b)
    (kt : a = b → W p l e R s m args below meth c H locs cells slots Q (F0 m (tgt) ls (rest))) (kf : ¬ a = b → W p l e R s m args below meth c H locs cells slots Q (F0 m (pc + 4) ls (rest))) : W p l e R s m args below meth c H locs cells slots Q (F0 m (pc) ls (.long y :: .long x :: rest)) := by
  refine W.lcmp hexec hb hd1 ?_
  rw [lg_cmp_z hx hy]
  refine z_if_eq (pc := pc + 1) hexec hb hdg ht (by split <;> (try split) <;> omega) (fun z => kt ?_) (fun z => kf ?_) <;> (split at z <;> (try split at z) <;> omega)
theorem z_icmp_ne (hexec : p.tables.exec = Jvm.exec) (hb : c.code = cc) {a b : Int} {off : Int} {tgt : Nat} (hdg : decode cc pc = .ok (.if_icmp .ne off, 3)) (ht : (pc : Int) + off = (tgt : Int)) (ha : -2147483648 ≤ a ∧ a < 2147483648) (hb2 : -2147483648 ≤ b ∧ b < 2147483648)
    (kt : ¬ a = b → W p l e R s m args below meth c H locs cells slots Q (F0 m (tgt) ls (rest))) (kf : a = b → W p l e R s m args below meth c H locs cells slots Q (F0 m (pc + 3) ls (rest))) : W p l e R s m args below meth c H locs cells slots Q (F0 m (pc) ls (.int (zI b) :: .int (zI a) :: rest)) :=
  lv_icmp_ne hexec hb hdg ht (fun z => kt (fun y => z ((zI_eq ha hb2).mpr y))) (fun z => kf ((zI_eq ha hb2).mp z))
theorem z_if_ne (hexec : p.tables.exec = Jvm.exec) (hb : c.code = cc) {a : Int} {off : Int} {tgt : Nat} (hdg : decode cc pc = .ok (.ifCond .ne off, 3)) (ht : (pc : Int) + off = (tgt : Int)) (ha : -2147483648 ≤ a ∧ a < 2147483648)
    (kt : ¬ a = 0 → W p l e R s m args below meth c H locs cells slots Q (F0 m (tgt) ls (rest))) (kf : a = 0 → W p l e R s m args below meth c H locs cells slots Q (F0 m (pc + 3) ls (rest))) : W p l e R s m args below meth c H locs cells slots Q (F0 m (pc) ls (.int (zI a) :: rest)) :=
  lv_if_ne hexec hb hdg ht (fun z => kt (fun y => z ((zI_eq0 ha).mpr y))) (fun z => kf ((zI_eq0 ha).mp z))
theorem z_lcmp_ne (hexec : p.tables.exec = Jvm.exec) (hb : c.code = cc) {x y : Int64} {a b : Int} {off : Int} {tgt : Nat} (hd1 : decode cc pc = .ok (.lcmp, 1)) (hdg : decode cc (pc + 1) = .ok (.ifCond .ne off, 3)) (ht : ((pc + 1 : Nat) : Int) + off = (tgt : Int)) (hx : x.toInt = a) (hy : y.toInt = b)
    (kt : ¬ a = b → W p l e R s m args below meth c H locs cells slots Q (F0 m (tgt) ls (rest))) (kf : a = b → W p l e R s m args below meth c H locs cells slots Q (F0 m (pc + 4) ls (rest))) : W p l e R s m args below meth c H locs cells slots Q (F0 m (pc) ls (.long y :: .long x :: rest)) := by
  refine W.lcmp hexec hb hd1 ?_
  rw [lg_cmp_z hx hy]
  refine z_if_ne (pc := pc + 1) hexec hb hdg ht (by split <;> (try split) <;> omega) (fun z => kt ?_) (fun z => kf ?_) <;> (split at z <;> (try split at z) <;> omega)
theorem z_icmp_lt (hexec : p.tables.exec = Jvm.exec) (hb : c.code = cc) {a b : Int} {off : Int} {tgt : Nat} (hdg : decode cc pc = .ok (.if_icmp .lt off, 3)) (ht : (pc : Int) + off = (tgt : Int)) (ha : -2147483648 ≤ a ∧ a < 2147483648) (hb2 : -2147483648 ≤ b ∧ b < 2147483648)
    (kt : a < b → W p l e R s m args below meth c H locs cells slots Q (F0 m (tgt) ls (rest))) (kf : b ≤ a → W p l e R s m args below meth c H locs cells slots Q (F0 m (pc + 3) ls (rest))) : W p l e R s m args below meth c H locs cells slots Q (F0 m (pc) ls (.int (zI b) :: .int (zI a) :: rest)) :=
  lv_icmp_lt hexec hb hdg ht (fun z => kt ((zI_lt ha hb2).mp z)) (fun z => kf (by rw [zI_lt ha hb2] at z; omega))
theorem z_if_lt (hexec : p.tables.exec = Jvm.exec) (hb : c.code = cc) {a : Int} {off : Int} {tgt : Nat} (hdg : decode cc pc = .ok (.ifCond .lt off, 3)) (ht : (pc : Int) + off = (tgt : Int)) (ha : -2147483648 ≤ a ∧ a < 2147483648)
    (kt : a < 0 → W p l e R s m args below meth c H locs cells slots Q (F0 m (tgt) ls (rest))) (kf : 0 ≤ a → W p l e R s m args below meth c H locs cells slots Q (F0 m (pc + 3) ls (rest))) : W p l e R s m args below meth c H locs cells slots Q (F0 m (pc) ls (.int (zI a) :: rest)) :=
  lv_if_lt hexec hb hdg ht (fun z => kt ((zI_lt0 ha).mp z)) (fun z => kf (by rw [zI_lt0 ha] at z; omega))
theorem z_lcmp_lt (hexec : p.tables.exec = Jvm.exec) (hb : c.code = cc) {x y : Int64} {a b : Int} {off : Int} {tgt : Nat} (hd1 : decode cc pc = .ok (.lcmp, 1)) (hdg : decode cc (pc + 1) = .ok (.ifCond .lt off, 3)) (ht : ((pc + 1 : Nat) : Int) + off = (tgt : Int)) (hx : x.toInt = a) (hy : y.toInt = b)
    (kt : a < b → W p l e R s m args below meth c H locs cells slots Q (F0 m (tgt) ls (rest))) (kf : b ≤ a → W p l e R s m args below meth c H locs cells slots Q (F0 m (pc + 4) ls (rest))) : W p l e R s m args below meth c H locs cells slots Q (F0 m (pc) ls (.long y :: .long x :: rest)) := by
  refine W.lcmp hexec hb hd1 ?_
  rw [lg_cmp_z hx hy]
  refine z_if_lt (pc := pc + 1) hexec hb hdg ht (by split <;> (try split) <;> omega) (fun z => kt ?_) (fun z => kf ?_) <;> (split at z <;> (try split at z) <;> omega)
theorem z_icmp_ge (hexec : p.tables.exec = Jvm.exec) (hb : c.code = cc) {a b : Int} {off : Int} {tgt : Nat} (hdg : decode cc pc = .ok (.if_icmp .ge off, 3)) (ht : (pc : Int) + off = (tgt : Int)) (ha : -2147483648 ≤ a ∧ a < 2147483648) (hb2 : -2147483648 ≤ b ∧ b < 2147483648)
    (kt : b ≤ a → W p l e R s m args below meth c H locs cells slots Q (F0 m (tgt) ls (rest))) (kf : a < b → W p l e R s m args below meth c H locs cells slots Q (F0 m (pc + 3) ls (rest))) : W p l e R s m args below meth c H locs cells slots Q (F0 m (pc) ls (.int (zI b) :: .int (zI a) :: rest)) :=
  lv_icmp_ge hexec hb hdg ht (fun z => kt ((zI_le hb2 ha).mp z)) (fun z => kf (by rw [zI_le hb2 ha] at z; omega))
theorem z_if_ge (hexec : p.tables.exec = Jvm.exec) (hb : c.code = cc) {a : Int} {off : Int} {tgt : Nat} (hdg : decode cc pc = .ok (.ifCond .ge off, 3)) (ht : (pc : Int) + off = (tgt : Int)) (ha : -2147483648 ≤ a ∧ a < 2147483648)
    (kt : 0 ≤ a → W p l e R s m args below meth c H locs cells slots Q (F0 m (tgt) ls (rest))) (kf : a < 0 → W p l e R s m args below meth c H locs cells slots Q (F0 m (pc + 3) ls (rest))) : W p l e R s m args below meth c H locs cells slots Q (F0 m (pc) ls (.int (zI a) :: rest)) :=
  lv_if_ge hexec hb hdg ht (fun z => kt ((zI_0le ha).mp z)) (fun z => kf (by rw [zI_0le ha] at z; omega))
theorem z_lcmp_ge (hexec : p.tables.exec = Jvm.exec) (hb : c.code = cc) {x y : Int64} {a b : Int} {off : Int} {tgt : Nat} (hd1 : decode cc pc = .ok (.lcmp, 1)) (hdg : decode cc (pc + 1) = .ok (.ifCond .ge off, 3)) (ht : ((pc + 1 : Nat) : Int) + off = (tgt : Int)) (hx : x.toInt = a) (hy : y.toInt = b)
    (kt : b ≤ a → W p l e R s m args below meth c H locs cells slots Q (F0 m (tgt) ls (rest))) (kf : a < b → W p l e R s m args below meth c H locs cells slots Q (F0 m (pc + 4) ls (rest))) : W p l e R s m args below meth c H locs cells slots Q (F0 m (pc) ls (.long y :: .long x :: rest)) := by
  refine W.lcmp hexec hb hd1 ?_
  rw [lg_cmp_z hx hy]
  refine z_if_ge (pc := pc + 1) hexec hb hdg ht (by split <;> (try split) <;> omega) (fun z => kt ?_) (fun z => kf ?_) <;> (split at z <;> (try split at z) <;> omega)
theorem z_icmp_gt (hexec : p.tables.exec = Jvm.exec) (hb : c.code = cc) {a b : Int} {off : Int} {tgt : Nat} (hdg : decode cc pc = .ok (.if_icmp .gt off, 3)) (ht : (pc : Int) + off = (tgt : Int)) (ha : -2147483648 ≤ a ∧ a < 2147483648) (hb2 : -2147483648 ≤ b ∧ b < 2147483648)
    (kt : b < a → W p l e R s m args below meth c H locs cells slots Q (F0 m (tgt) ls (rest))) (kf : a ≤ b → W p l e R s m args below meth c H locs cells slots Q (F0 m (pc + 3) ls (rest))) : W p l e R s m args below meth c H locs cells slots Q (F0 m (pc) ls (.int (zI b) :: .int (zI a) :: rest)) :=
  lv_icmp_gt hexec hb hdg ht (fun z => kt ((zI_lt hb2 ha).mp z)) (fun z => kf (by rw [zI_lt hb2 ha] at z; omega))
theorem z_if_gt (hexec : p.tables.exec = Jvm.exec) (hb : c.code = cc) {a : Int} {off : Int} {tgt : Nat} (hdg : decode cc pc = .ok (.ifCond .gt off, 3)) (ht : (pc : Int) + off = (tgt : Int)) (ha : -2147483648 ≤ a ∧ a < 2147483648)
    (kt : 0 < a → W p l e R s m args below meth c H locs cells slots Q (F0 m (tgt) ls (rest))) (kf : a ≤ 0 → W p l e R s m args below meth c H locs cells slots Q (F0 m (pc + 3) ls (rest))) : W p l e R s m args below meth c H locs cells slots Q (F0 m (pc) ls (.int (zI a) :: rest)) :=
  lv_if_gt hexec hb hdg ht (fun z => kt ((zI_0lt ha).mp z)) (fun z => kf (by rw [zI_0lt ha] at z; omega))
theorem z_lcmp_gt (hexec : p.tables.exec = Jvm.exec) (hb : c.code = cc) {x y : Int64} {a b : Int} {off : Int} {tgt : Nat} (hd1 : decode cc pc = .ok (.lcmp, 1)) (hdg : decode cc (pc + 1) = .ok (.ifCond .gt off, 3)) (ht : ((pc + 1 : Nat) : Int) + off = (tgt : Int)) (hx : x.toInt = a) (hy : y.toInt = b)
    (kt : b < a → W p l e R s m args below meth c H locs cells slots Q (F0 m (tgt) ls (rest))) (kf : a ≤ b → W p l e R s m args below meth c H locs cells slots Q (F0 m (pc + 4) ls (rest))) : W p l e R s m args below meth c H locs cells slots Q (F0 m (pc) ls (.long y :: .long x :: rest)) := by
  refine W.lcmp hexec hb hd1 ?_
  rw [lg_cmp_z hx hy]
  refine z_if_gt (pc := pc + 1) hexec hb hdg ht (by split <;> (try split) <;> omega) (fun z => kt ?_) (fun z => kf ?_) <;> (split at z <;> (try split at z) <;> omega)
theorem z_icmp_le (hexec : p.tables.exec = Jvm.exec) (hb : c.code = cc) {a b : Int} {off : Int} {tgt : Nat} (hdg : decode cc pc = .ok (.if_icmp .le off, 3)) (ht : (pc : Int) + off = (tgt : Int)) (ha : -2147483648 ≤ a ∧ a < 2147483648) (hb2 : -2147483648 ≤ b ∧ b < 2147483648)
    (kt : a ≤ b → W p l e R s m args below meth c H locs cells slots Q (F0 m (tgt) ls (rest))) (kf : b < a → W p l e R s m args below meth c H locs cells slots Q (F0 m (pc + 3) ls (rest))) : W p l e R s m args below meth c H locs cells slots Q (F0 m (pc) ls (.int (zI b) :: .int (zI a) :: rest)) :=
  lv_icmp_le hexec hb hdg ht (fun z => kt ((zI_le ha hb2).mp z)) (fun z => kf (by rw [zI_le ha hb2] at z; omega))
theorem z_if_le (hexec : p.tables.exec = Jvm.exec) (hb : c.code = cc) {a : Int} {off : Int} {tgt : Nat} (hdg : decode cc pc = .ok (.ifCond .le off, 3)) (ht : (pc : Int) + off = (tgt : Int)) (ha : -2147483648 ≤ a ∧ a < 2147483648)
    (kt : a ≤ 0 → W p l e R s m args below meth c H locs cells slots Q (F0 m (tgt) ls (rest))) (kf : 0 < a → W p l e R s m args below meth c H locs cells slots Q (F0 m (pc + 3) ls (rest))) : W p l e R s m args below meth c H locs cells slots Q (F0 m (pc) ls (.int (zI a) :: rest)) :=
  lv_if_le hexec hb hdg ht (fun z => kt ((zI_le0 ha).mp z)) (fun z => kf (by rw [zI_le0 ha] at z; omega))
theorem z_lcmp_le (hexec : p.tables.exec = Jvm.exec) (hb : c.code = cc) {x y : Int64} {a b : Int} {off : Int} {tgt : Nat} (hd1 : decode cc pc = .ok (.lcmp, 1)) (hdg : decode cc (pc + 1) = .ok (.ifCond .le off, 3)) (ht : ((pc + 1 : Nat) : Int) + off = (tgt : Int)) (hx : x.toInt = a) (hy : y.toInt = b)
    (kt : a ≤ b → W p l e R s m args below meth c H locs cells slots Q (F0 m (tgt) ls (rest))) (kf : b < a → W p l e R s m args below meth c H locs cells slots Q (F0 m (pc + 4) ls (rest))) : W p l e R s m args below meth c H locs cells slots Q (F0 m (pc) ls (.long y :: .long x :: rest)) := by
  refine W.lcmp hexec hb hd1 ?_
  rw [lg_cmp_z hx hy]
  refine z_if_le (pc := pc + 1) hexec hb hdg ht (by split <;> (try split) <;> omega) (fun z => kt ?_) (fun z => kf ?_) <;> (split at z <;> (try split at z) <;> omega)
theorem z_re {e1 e2 : Int} (h : e1 = e2) (k : W p l e R s m args below meth c H locs cells slots Q (F0 m (pc) ls (.int (zI e2) :: rest))) : W p l e R s m args below meth c H locs cells slots Q (F0 m (pc) ls (.int (zI e1) :: rest)) := by subst h; exact k
theorem n_re {e1 e2 : Nat} (h : e1 = e2) (k : W p l e R s m args below meth c H locs cells slots Q (F0 m (pc) ls (.long (lN e2) :: rest))) : W p l e R s m args below meth c H locs cells slots Q (F0 m (pc) ls (.long (lN e1) :: rest)) := by subst h; exact k
theorem zl_re {e1 e2 : Int} (h : e1 = e2) (k : W p l e R s m args below meth c H locs cells slots Q (F0 m (pc) ls (.long (zL e2) :: rest))) : W p l e R s m args below meth c H locs cells slots Q (F0 m (pc) ls (.long (zL e1) :: rest)) := by subst h; exact k
theorem x_re {e1 e2 : Int32} (h : e1 = e2) (k : W p l e R s m args below meth c H locs cells slots Q (F0 m (pc) ls (.int e2 :: rest))) : W p l e R s m args below meth c H locs cells slots Q (F0 m (pc) ls (.int e1 :: rest)) := by subst h; exact k
theorem y_re {e1 e2 : Int64} (h : e1 = e2) (k : W p l e R s m args below meth c H locs cells slots Q (F0 m (pc) ls (.long e2 :: rest))) : W p l e R s m args below meth c H locs cells slots Q (F0 m (pc) ls (.long e1 :: rest)) := by subst h; exact k
theorem q_re {e1 e2 : Option Nat} (h : e1 = e2) (k : W p l e R s m args below meth c H locs cells slots Q (F0 m (pc) ls (va_rf e2 :: rest))) : W p l e R s m args below meth c H locs cells slots Q (F0 m (pc) ls (va_rf e1 :: rest)) := by subst h; exact k
theorem zn_re {e1 : Int} {e2 : Nat} (h : e1 = (e2 : Int)) (k : W p l e R s m args below meth c H locs cells slots Q (F0 m (pc) ls (.long (lN e2) :: rest))) : W p l e R s m args below meth c H locs cells slots Q (F0 m (pc) ls (.long (zL e1) :: rest)) := by subst h; rw [zL_lN] at k; exact k
theorem nz_re {e1 : Nat} {e2 : Int} (h : (e1 : Int) = e2) (k : W p l e R s m args below meth c H locs cells slots Q (F0 m (pc) ls (.long (zL e2) :: rest))) : W p l e R s m args below meth c H locs cells slots Q (F0 m (pc) ls (.long (lN e1) :: rest)) := by subst h; rw [zL_lN]; exact k
theorem z_ifb_eq (hexec : p.tables.exec = Jvm.exec) (hb : c.code = cc) {P : Prop} [Decidable P] {off : Int} {tgt : Nat} (hdg : decode cc pc = .ok (.ifCond .eq off, 3)) (ht : (pc : Int) + off = (tgt : Int))
    (kt : ¬ P → W p l e R s m args below meth c H locs cells slots Q (F0 m (tgt) ls (rest))) (kf : P → W p l e R s m args below meth c H locs cells slots Q (F0 m (pc + 3) ls (rest))) : W p l e R s m args below meth c H locs cells slots Q (F0 m (pc) ls (.int (zI (bP P)) :: rest)) :=
  z_if_eq hexec hb hdg ht (bP_rng P) (fun z => kt (bP_f z)) (fun z => kf (bP_t z))
theorem z_ifb_ne (hexec : p.tables.exec = Jvm.exec) (hb : c.code = cc) {P : Prop} [Decidable P] {off : Int} {tgt : Nat} (hdg : decode cc pc = .ok (.ifCond .ne off, 3)) (ht : (pc : Int) + off = (tgt : Int))
    (kt : P → W p l e R s m args below meth c H locs cells slots Q (F0 m (tgt) ls (rest))) (kf : ¬ P → W p l e R s m args below meth c H locs cells slots Q (F0 m (pc + 3) ls (rest))) : W p l e R s m args below meth c H locs cells slots Q (F0 m (pc) ls (.int (zI (bP P)) :: rest)) :=
  z_if_ne hexec hb hdg ht (bP_rng P) (fun z => kt (bP_t z)) (fun z => kf (bP_f z))
theorem z_mmax (hexec : p.tables.exec = Jvm.exec) (hb : c.code = cc) (hml : c.maxLocals = ls.size) {own : String} {index : Nat} (hown : s.vm.findClass own = some m.cls) (hlink : (Cond.methodLink own index Lib.Math.max.name).before args s = true) (hstat : (Cond.static Lib.Math.max.name).before args s = true) (hini : (Cond.initialized "java/lang/Math").before args s = true) (hcode : (Cond.code Lib.Math.max.name Lib.Math.max.code 2 (some .int)).before args s = true) (hframes : 1 ≤ R.frames) (hlocals : (rest.map fun v => v.category).sum + 13 ≤ R.locals) (hc : cells ≤ R.cells) (hs : slots ≤ R.slots) {a b : Int} (ha : -2147483648 ≤ a ∧ a < 2147483648) (hb2 : -2147483648 ≤ b ∧ b < 2147483648) (hdg : decode cc pc = .ok (.invokestatic index, 3)) (k : W p l e R s m args below meth c H locs cells slots Q (F0 m (pc + 3) ls (.int (zI (max a b)) :: rest))) : W p l e R s m args below meth c H locs cells slots Q (F0 m (pc) ls (.int (zI b) :: .int (zI a) :: rest)) := by
  refine va_mmax hexec hb hml hown hlink hstat hini hcode hframes hlocals hc hs hdg ?_
  have h : (if zI a < zI b then zI b else zI a) = zI (max a b) := by
    by_cases q : a < b
    · rw [if_pos ((zI_lt ha hb2).mpr q), show max a b = b by omega]
    · rw [if_neg (fun z => q ((zI_lt ha hb2).mp z)), show max a b = a by omega]
  rw [h]; exact k
theorem z_mmin (hexec : p.tables.exec = Jvm.exec) (hb : c.code = cc) (hml : c.maxLocals = ls.size) {own : String} {index : Nat} (hown : s.vm.findClass own = some m.cls) (hlink : (Cond.methodLink own index Lib.Math.min.name).before args s = true) (hstat : (Cond.static Lib.Math.min.name).before args s = true) (hini : (Cond.initialized "java/lang/Math").before args s = true) (hcode : (Cond.code Lib.Math.min.name Lib.Math.min.code 2 (some .int)).before args s = true) (hframes : 1 ≤ R.frames) (hlocals : (rest.map fun v => v.category).sum + 13 ≤ R.locals) (hc : cells ≤ R.cells) (hs : slots ≤ R.slots) {a b : Int} (ha : -2147483648 ≤ a ∧ a < 2147483648) (hb2 : -2147483648 ≤ b ∧ b < 2147483648) (hdg : decode cc pc = .ok (.invokestatic index, 3)) (k : W p l e R s m args below meth c H locs cells slots Q (F0 m (pc + 3) ls (.int (zI (min a b)) :: rest))) : W p l e R s m args below meth c H locs cells slots Q (F0 m (pc) ls (.int (zI b) :: .int (zI a) :: rest)) := by
  refine va_mmin hexec hb hml hown hlink hstat hini hcode hframes hlocals hc hs hdg ?_
  have h : (if zI b < zI a then zI b else zI a) = zI (min a b) := by
    by_cases q : b < a
    · rw [if_pos ((zI_lt hb2 ha).mpr q), show min a b = b by omega]
    · rw [if_neg (fun z => q ((zI_lt hb2 ha).mp z)), show min a b = a by omega]
  rw [h]; exact k
theorem z_mabs (hexec : p.tables.exec = Jvm.exec) (hb : c.code = cc) (hml : c.maxLocals = ls.size) {own : String} {index : Nat} (hown : s.vm.findClass own = some m.cls) (hlink : (Cond.methodLink own index Lib.Math.abs.name).before args s = true) (hstat : (Cond.static Lib.Math.abs.name).before args s = true) (hini : (Cond.initialized "java/lang/Math").before args s = true) (hcode : (Cond.code Lib.Math.abs.name Lib.Math.abs.code 1 (some .int)).before args s = true) (hframes : 1 ≤ R.frames) (hlocals : (rest.map fun v => v.category).sum + 13 ≤ R.locals) (hc : cells ≤ R.cells) (hs : slots ≤ R.slots) {a : Int} (ha : -2147483648 < a ∧ a < 2147483648) (hdg : decode cc pc = .ok (.invokestatic index, 3)) (k : W p l e R s m args below meth c H locs cells slots Q (F0 m (pc + 3) ls (.int (zI (a.natAbs : Int)) :: rest))) : W p l e R s m args below meth c H locs cells slots Q (F0 m (pc) ls (.int (zI a) :: rest)) := by
  refine va_mabs hexec hb hml hown hlink hstat hini hcode hframes hlocals hc hs hdg ?_
  have h : (if 0 ≤ zI a then zI a else 0 - zI a) = zI (a.natAbs : Int) := by
    by_cases q : 0 ≤ a
    · rw [if_pos ((zI_0le (by omega)).mpr q), show (a.natAbs : Int) = a by omega]
    · rw [if_neg (fun z => q ((zI_0le (by omega)).mp z)), show (a.natAbs : Int) = 0 - a by omega]
      exact (Int32.ofInt_sub 0 a).symm
  rw [h]; exact k
theorem z_mminl (hexec : p.tables.exec = Jvm.exec) (hb : c.code = cc) (hml : c.maxLocals = ls.size) {own : String} {index : Nat} (hown : s.vm.findClass own = some m.cls) (hlink : (Cond.methodLink own index Lib.MathLoose.min_long.x).before args s = true) (hstat : (Cond.static Lib.MathLoose.min_long.x).before args s = true) (hini : (Cond.initialized "java/lang/Math").before args s = true) (hcode : (Cond.code Lib.MathLoose.min_long.x Lib.MathLoose.min_long.code 4 (some .long)).before args s = true) (hframes : 1 ≤ R.frames) (hlocals : (rest.map fun v => v.category).sum + 15 ≤ R.locals) (hc : cells ≤ R.cells) (hs : slots ≤ R.slots) {a b : Nat} (ha : a < 9223372036854775808) (hb2 : b < 9223372036854775808) (hdg : decode cc pc = .ok (.invokestatic index, 3)) (k : W p l e R s m args below meth c H locs cells slots Q (F0 m (pc + 3) ls (.long (lN (min a b)) :: rest))) : W p l e R s m args below meth c H locs cells slots Q (F0 m (pc) ls (.long (lN b) :: .long (lN a) :: rest)) := by
  refine va_mmin_long hexec hb hml hown hlink hstat hini hcode hframes hlocals hc hs hdg ?_
  have h : (if lN b < lN a then lN b else lN a) = lN (min a b) := by
    have e : lN b < lN a ↔ b < a := by rw [Int64.lt_iff_toInt_lt, lN_toI ha, lN_toI hb2]; omega
    by_cases q : b < a
    · rw [if_pos (e.mpr q), show min a b = b by omega]
    · rw [if_neg (fun z => q (e.mp z)), show min a b = a by omega]
  rw [h]; exact k
theorem z_tableIn (hexec : p.tables.exec = Jvm.exec) (hb : c.code = cc) {dflt lo hi : Int} {offs : Array Int} {len : Nat} {b : Int} {off : Int} {tgt : Nat} (q : Nat) (hdg : decode cc pc = .ok (.tableswitch dflt lo hi offs, len)) (hb2 : -2147483648 ≤ b ∧ b < 2147483648) (he : b = lo + q) (hh : b ≤ hi) (ho : offs[q]? = some off) (ht : (pc : Int) + off = (tgt : Int)) (k : W p l e R s m args below meth c H locs cells slots Q (F0 m (tgt) ls (rest))) : W p l e R s m args below meth c H locs cells slots Q (F0 m (pc) ls (.int (zI b) :: rest)) :=
  lv_tableIn hexec hb hdg (by rw [zI_toInt hb2]; omega) (by rw [zI_toInt hb2]; omega) (by rw [zI_toInt hb2, show (b - lo).toNat = q by omega]; exact ho) ht k
theorem z_tableOut (hexec : p.tables.exec = Jvm.exec) (hb : c.code = cc) {dflt lo hi : Int} {offs : Array Int} {len : Nat} {b : Int} {tgt : Nat} (hdg : decode cc pc = .ok (.tableswitch dflt lo hi offs, len)) (hb2 : -2147483648 ≤ b ∧ b < 2147483648) (he : b < lo ∨ hi < b) (ht : (pc : Int) + dflt = (tgt : Int)) (k : W p l e R s m args below meth c H locs cells slots Q (F0 m (tgt) ls (rest))) : W p l e R s m args below meth c H locs cells slots Q (F0 m (pc) ls (.int (zI b) :: rest)) :=
  lv_tableOut hexec hb hdg (by rw [zI_toInt hb2]; exact he) ht k
theorem n_iushr (hexec : p.tables.exec = Jvm.exec) (hb : c.code = cc) {a q : Nat} (ha : a < 4294967296) (hq : q < 32) (hdg : decode cc pc = .ok (.iushr, 1))
    (k : W p l e R s m args below meth c H locs cells slots Q (F0 m (pc + 1) ls (.int (zI ((a >>> q : Nat) : Int)) :: rest))) : W p l e R s m args below meth c H locs cells slots Q (F0 m (pc) ls (.int (zI (q : Int)) :: .int (zI (a : Int)) :: rest)) := by
  exact lv_iushr hexec hb hdg (by rw [← zI_nI, ← zI_nI, ← zI_nI]; exact nI_ushr ha hq) k
end ZR
