/-! rows turned -/
def tf (n x : Nat) (b s t : Bool) (i : Nat) : Bool := (x.testBit (if b then n - 1 - i else i) ^^ s) ^^ (t && decide (i % 2 = 1))
def TW (n x : Nat) (b s t : Bool) : Nat := ob (tf n x b s t) n
def TWw (n x w : Nat) : Nat := TW n x (w.testBit 0) (w.testBit 1) (w.testBit 2)
theorem TW_lt (n x : Nat) (b s t : Bool) : TW n x b s t < 2 ^ n := ob_lt _ n
theorem TWw_lt (n x w : Nat) : TWw n x w < 2 ^ n := ob_lt _ n
theorem TW_x {n x : Nat} (h : x < 2 ^ n) : x = TW n x false false false := ob_eq h (fun i _ => by simp [tf])
def rv (n x : Nat) : Nat := ob (fun i => x.testBit (n - 1 - i)) n
theorem TW_rev (n x : Nat) : rv n x = TW n x true false false := ob_cong (fun i _ => by simp [tf])
theorem TW_op (n x : Nat) (b : Bool) : TW n x b false false ^^^ (2 ^ n - 1) = TW n x b true false := by
  apply Nat.eq_of_testBit_eq
  intro i
  unfold TW
  rw [Nat.testBit_xor, ob_tb, ob_tb, Nat.testBit_two_pow_sub_one]
  by_cases q : i < n
  · simp [q, tf]
  · simp [q]
theorem odd_tb : ∀ i, i < 32 → (2863311530 : Nat).testBit i = decide (i % 2 = 1) := by decide +kernel
theorem TW_sec {n : Nat} (hn : n ≤ 32) (x : Nat) (b s : Bool) : TW n x b s false ^^^ (2863311530 &&& (2 ^ n - 1)) = TW n x b s true := by
  apply Nat.eq_of_testBit_eq
  intro i
  unfold TW
  rw [Nat.testBit_xor, ob_tb, ob_tb, Nat.testBit_and, Nat.testBit_two_pow_sub_one]
  by_cases q : i < n
  · rw [odd_tb i (by omega)]
    simp [q, tf]
  · simp [q]
theorem w_bits : ∀ w, w < 8 → ((w &&& 1 = 0 ↔ w.testBit 0 = false) ∧ (w &&& 2 = 0 ↔ w.testBit 1 = false) ∧ (w &&& 4 = 0 ↔ w.testBit 2 = false)) := by decide +kernel
theorem w_0 {w : Nat} (hw : w < 8) (h : ((w &&& 1 : Nat) : Int) = 0) : w.testBit 0 = false := (w_bits w hw).1.mp (by omega)
theorem w_0' {w : Nat} (hw : w < 8) (h : ¬ ((w &&& 1 : Nat) : Int) = 0) : w.testBit 0 = true := by
  have := (w_bits w hw).1
  cases hb : w.testBit 0
  · rw [hb] at this; exact absurd (this.mpr rfl) (by omega)
  · rfl
theorem w_1 {w : Nat} (hw : w < 8) (h : ((w &&& 2 : Nat) : Int) = 0) : w.testBit 1 = false := (w_bits w hw).2.1.mp (by omega)
theorem w_1' {w : Nat} (hw : w < 8) (h : ¬ ((w &&& 2 : Nat) : Int) = 0) : w.testBit 1 = true := by
  have := (w_bits w hw).2.1
  cases hb : w.testBit 1
  · rw [hb] at this; exact absurd (this.mpr rfl) (by omega)
  · rfl
theorem w_2 {w : Nat} (hw : w < 8) (h : ((w &&& 4 : Nat) : Int) = 0) : w.testBit 2 = false := (w_bits w hw).2.2.mp (by omega)
theorem w_2' {w : Nat} (hw : w < 8) (h : ¬ ((w &&& 4 : Nat) : Int) = 0) : w.testBit 2 = true := by
  have := (w_bits w hw).2.2
  cases hb : w.testBit 2
  · rw [hb] at this; exact absurd (this.mpr rfl) (by omega)
  · rfl
theorem rv_0 (x : Nat) : ob (fun j => x.testBit (0 - 1 - j)) 0 = 0 := rfl
theorem rv_s (x i : Nat) : (ob (fun j => x.testBit (i - 1 - j)) i <<< 1) ||| (x.testBit i).toNat = ob (fun j => x.testBit (i + 1 - 1 - j)) (i + 1) := by
  apply Nat.eq_of_testBit_eq
  intro j
  rw [Nat.testBit_or, tb_shl, ob_tb, ob_tb]
  cases j with
  | zero => cases hb : x.testBit i <;> simp [hb]
  | succ j =>
    have e : (x.testBit i).toNat.testBit (j + 1) = false := by cases x.testBit i <;> simp [Nat.testBit_succ]
    rw [e]
    by_cases q : j < i
    · simp [q, show i - 1 - j = i - (j + 1) by omega]
    · simp [q]
def ltw (n x : Nat) : Nat → Nat
  | 0 => x
  | w + 1 => min (ltw n x w) (TWw n x w)
theorem TWw_0 {n x : Nat} (h : x < 2 ^ n) : TWw n x 0 = x := (TW_x h).symm
theorem ltw_1 {n x : Nat} (h : x < 2 ^ n) : ltw n x 1 = x := by
  show min x (TWw n x 0) = x
  rw [TWw_0 h]
  omega
theorem ltw_lt {n x : Nat} (h : x < 2 ^ n) : ∀ w, ltw n x w < 2 ^ n
  | 0 => h
  | w + 1 => Nat.lt_of_le_of_lt (Nat.min_le_left _ _) (ltw_lt h w)
def nwT (n x w : Nat) : Bool := (List.range w).all (fun j => TWw n x j != TWw n x w)
theorem nwT_iff {n x w : Nat} : nwT n x w = true ↔ ∀ j, j < w → ¬ TWw n x j = TWw n x w := by simp [nwT]
def cntw (n x : Nat) : Nat → Nat
  | 0 => 0
  | w + 1 => cntw n x w + (if nwT n x w = true then 1 else 0)
theorem cntw_le (n x : Nat) : ∀ w, cntw n x w ≤ w
  | 0 => Nat.le_refl 0
  | w + 1 => by
    have h := cntw_le n x w
    show cntw n x w + (if nwT n x w = true then 1 else 0) ≤ w + 1
    split <;> omega
/-- two rows put behind one another, woven, multiplied -/
def jn (a la b : Nat) : Nat := a ||| (b <<< la)
theorem jn_lt {a la b lb : Nat} (ha : a < 2 ^ la) (hb : b < 2 ^ lb) : jn a la b < 2 ^ (la + lb) := lt_tb (fun i hi => by
  unfold jn
  rw [Nat.testBit_or, tb_shl, tb_lt ha (by omega), tb_lt hb (by omega)]
  simp)
def wv (a b : Nat) : Nat → Nat
  | 0 => 0
  | i + 1 => wv a b i ||| (((a.testBit i).toNat <<< (2 * i)) ||| ((b.testBit i).toNat <<< (2 * i + 1)))
theorem tbn_lt2 (b : Bool) : b.toNat < 2 ^ 1 := by cases b <;> decide
theorem wv_lt (a b : Nat) : ∀ i, wv a b i < 2 ^ (2 * i)
  | 0 => Nat.zero_lt_one
  | i + 1 => lt_tb (fun j hj => by
    show (wv a b i ||| (((a.testBit i).toNat <<< (2 * i)) ||| ((b.testBit i).toNat <<< (2 * i + 1)))).testBit j = false
    rw [Nat.testBit_or, Nat.testBit_or, tb_shl, tb_shl, tb_lt (wv_lt a b i) (by omega), tb_lt (tbn_lt2 (a.testBit i)) (by omega), tb_lt (tbn_lt2 (b.testBit i)) (by omega)]
    simp)
def pd (a b lb m : Nat) : Nat := ob (fun j => a.testBit (j / lb) ^^ b.testBit (j % lb)) m
theorem pd_s (a : Nat) {b lb : Nat} (i : Nat) (hb : b < 2 ^ lb) (hl : 0 < lb) : pd a b lb (i * lb) ||| ((if a.testBit i then b ^^^ (2 ^ lb - 1) else b) <<< (i * lb)) = pd a b lb ((i + 1) * lb) := by
  apply Nat.eq_of_testBit_eq
  intro j
  unfold pd
  rw [Nat.testBit_or, tb_shl, ob_tb, ob_tb]
  have hm : (i + 1) * lb = i * lb + lb := Nat.succ_mul i lb
  rcases Nat.lt_or_ge j (i * lb) with q | q
  · simp [q, show j < (i + 1) * lb by omega, show ¬ i * lb ≤ j by omega]
  · rcases Nat.lt_or_ge j ((i + 1) * lb) with r | r
    · have e1 : j / lb = i := by
        apply Nat.div_eq_of_lt_le
        · exact q
        · exact r
      have e2 : j % lb = j - i * lb := by
        have h := Nat.div_add_mod j lb
        rw [e1, Nat.mul_comm lb i] at h
        omega
      rw [e1, e2]
      have e3 : j - i * lb < lb := by omega
      cases ha : a.testBit i
      · simp [show ¬ j < i * lb by omega, r, q]
      · simp [show ¬ j < i * lb by omega, r, q, Nat.testBit_xor, Nat.testBit_two_pow_sub_one, e3]
    · have e4 : lb ≤ j - i * lb := by omega
      have e5 : (if a.testBit i then b ^^^ (2 ^ lb - 1) else b).testBit (j - i * lb) = false := by
        split
        · rw [Nat.testBit_xor, tb_lt hb e4, Nat.testBit_two_pow_sub_one]
          simp; omega
        · exact tb_lt hb e4
      rw [e5]
      simp [show ¬ j < i * lb by omega, show ¬ j < (i + 1) * lb by omega]
