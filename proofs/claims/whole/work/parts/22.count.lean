/-! how many bits: the way Long.bitCount and Integer.bitCount go -/
def tJ (a y : Nat) : Nat := 2 ^ 8 * y + a
theorem tJ_and {a m : Nat} (y n : Nat) (ha : a < 256) (hm : m < 256) : tJ a y &&& tJ m n = tJ (a &&& m) (y &&& n) := by
  have h : a &&& m < 2 ^ 8 := Nat.lt_of_le_of_lt Nat.and_le_left ha
  apply Nat.eq_of_testBit_eq
  intro i
  unfold tJ
  rw [Nat.testBit_and, Nat.testBit_two_pow_mul_add _ ha, Nat.testBit_two_pow_mul_add _ hm, Nat.testBit_two_pow_mul_add _ h]
  split <;> rw [Nat.testBit_and]
def tG1 (M x : Nat) : Nat := x - ((x >>> 1) &&& M)
def tG2 (M x : Nat) : Nat := (x &&& M) + ((x >>> 2) &&& M)
def tG3 (M x : Nat) : Nat := (x + x >>> 4) &&& M
theorem tG1_d : ∀ a, a < 256 → ∀ r, r < 2 → ((a >>> 1) + 128 * r) &&& 0x55 = (a >>> 1) &&& 0x55 ∧ (a >>> 1) &&& 0x55 ≤ a ∧ a >>> 1 < 128 := by decide +kernel
theorem tG2_d : ∀ a, a < 256 → ∀ r, r < 4 → ((a >>> 2) + 64 * r) &&& 0x33 = (a >>> 2) &&& 0x33 ∧ a >>> 2 < 64 := by decide +kernel
theorem tG3_d : ∀ a, a < 69 → ∀ r, r < 5 → (a + (a >>> 4) + 16 * r) &&& 0x0f = (a + a >>> 4) &&& 0x0f ∧ a >>> 4 < 5 := by decide +kernel
theorem tB_d : ∀ a, a < 256 → tG1 0x55 a < 256 ∧ tG2 0x33 (tG1 0x55 a) < 69 ∧ tG2 0x33 (tG1 0x55 a) % 16 < 5 ∧ tG3 0x0f (tG2 0x33 (tG1 0x55 a)) = pc a 8 := by decide +kernel
theorem tG1_J {a y M : Nat} (ha : a < 256) : tG1 (tJ 0x55 M) (tJ a y) = tJ (tG1 0x55 a) (tG1 M y) := by
  have h := tG1_d a ha (y % 2) (Nat.mod_lt _ (by decide))
  have hy : (y >>> 1) &&& M ≤ y := Nat.le_trans Nat.and_le_left (Nat.shiftRight_le _ _)
  have e : tJ a y >>> 1 = tJ ((a >>> 1) + 128 * (y % 2)) (y >>> 1) := by
    simp only [tJ, Nat.shiftRight_eq_div_pow]
    omega
  unfold tG1
  rw [e, tJ_and _ _ (by omega) (by decide), h.1]
  unfold tJ
  omega
theorem tG2_J {a y M : Nat} (ha : a < 256) : tG2 (tJ 0x33 M) (tJ a y) = tJ (tG2 0x33 a) (tG2 M y) := by
  have h := tG2_d a ha (y % 4) (Nat.mod_lt _ (by decide))
  have e : tJ a y >>> 2 = tJ ((a >>> 2) + 64 * (y % 4)) (y >>> 2) := by
    simp only [tJ, Nat.shiftRight_eq_div_pow]
    omega
  unfold tG2
  rw [e, tJ_and y M ha (by decide), tJ_and (y >>> 2) M (by omega) (by decide), h.1]
  unfold tJ
  omega
theorem tG3_J {a y M : Nat} (ha : a < 69) (hy : y % 16 < 5) : tG3 (tJ 0x0f M) (tJ a y) = tJ (tG3 0x0f a) (tG3 M y) := by
  have h := tG3_d a ha (y % 16) hy
  have e : tJ a y + tJ a y >>> 4 = tJ (a + (a >>> 4) + 16 * (y % 16)) (y + y >>> 4) := by
    simp only [tJ, Nat.shiftRight_eq_div_pow]
    omega
  unfold tG3
  rw [e, tJ_and _ _ (by omega) (by decide), h.1]
theorem pc_J {a y : Nat} (ha : a < 256) : ∀ n, pc (tJ a y) (8 + n) = pc a 8 + pc y n
  | 0 => pc_cong (fun i hi => by unfold tJ; rw [Nat.testBit_two_pow_mul_add _ ha, if_pos hi])
  | n + 1 => by
    have h := pc_J (y := y) ha n
    show pc (tJ a y) (8 + n) + (if (tJ a y).testBit (8 + n) then 1 else 0) = pc a 8 + (pc y n + (if y.testBit n then 1 else 0))
    rw [h, show (tJ a y).testBit (8 + n) = y.testBit n by unfold tJ; rw [Nat.testBit_two_pow_mul_add _ ha, if_neg (by omega)]; congr 1; omega]
    omega
theorem tJ_of (x : Nat) : x = tJ (x % 256) (x / 256) := by unfold tJ; omega
theorem tJ_mod (a y : Nat) : tJ a y % 16 = a % 16 := by unfold tJ; omega
/-- the first three steps, over four bytes -/
theorem t_bytes {a b c d : Nat} (ha : a < 256) (hb : b < 256) (hc : c < 256) (hd : d < 256) (M5 M3 MF : Nat) :
    tG3 (tJ 0x0f (tJ 0x0f (tJ 0x0f (tJ 0x0f MF)))) (tG2 (tJ 0x33 (tJ 0x33 (tJ 0x33 (tJ 0x33 M3)))) (tG1 (tJ 0x55 (tJ 0x55 (tJ 0x55 (tJ 0x55 M5)))) (tJ a (tJ b (tJ c (tJ d 0)))))) = tJ (pc a 8) (tJ (pc b 8) (tJ (pc c 8) (tJ (pc d 8) 0))) := by
  obtain ⟨a1, a2, a3, a4⟩ := tB_d a ha
  obtain ⟨b1, b2, b3, b4⟩ := tB_d b hb
  obtain ⟨c1, c2, c3, c4⟩ := tB_d c hc
  obtain ⟨d1, d2, d3, d4⟩ := tB_d d hd
  have z1 : tG1 M5 0 = 0 := by simp [tG1]
  have z2 : tG2 M3 0 = 0 := by simp [tG2]
  have z3 : tG3 MF 0 = 0 := by simp [tG3]
  rw [tG1_J ha, tG1_J hb, tG1_J hc, tG1_J hd, z1, tG2_J a1, tG2_J b1, tG2_J c1, tG2_J d1, z2, tG3_J a2 (by rw [tJ_mod]; exact b3), tG3_J b2 (by rw [tJ_mod]; exact c3), tG3_J c2 (by rw [tJ_mod]; exact d3), tG3_J d2 (by decide), z3, a4, b4, c4, d4]
def tV3 (x : Nat) : Nat := tG3 1085102592571150095 (tG2 3689348814741910323 (tG1 6148914691236517205 x))
theorem tV3_eq {x : Nat} (h : x < 4294967296) : ∃ a b c d : Nat, a ≤ 8 ∧ b ≤ 8 ∧ c ≤ 8 ∧ d ≤ 8 ∧ tV3 x = a + 256 * b + 65536 * c + 16777216 * d ∧ pc x 32 = a + b + c + d := by
  have e : x = tJ (x % 256) (tJ (x / 256 % 256) (tJ (x / 65536 % 256) (tJ (x / 16777216) 0))) := by unfold tJ; omega
  generalize ha : x % 256 = a at e
  generalize hb : x / 256 % 256 = b at e
  generalize hc : x / 65536 % 256 = c at e
  generalize hd : x / 16777216 = d at e
  have ha' : a < 256 := by omega
  have hb' : b < 256 := by omega
  have hc' : c < 256 := by omega
  have hd' : d < 256 := by omega
  have k := t_bytes ha' hb' hc' hd' 0x55555555 0x33333333 0x0f0f0f0f
  refine ⟨pc a 8, pc b 8, pc c 8, pc d 8, pc_le a 8, pc_le b 8, pc_le c 8, pc_le d 8, ?_, ?_⟩
  · rw [e]
    refine Eq.trans ?_ (k.trans ?_)
    · rfl
    · unfold tJ; omega
  · rw [e]
    have p1 : pc (tJ a (tJ b (tJ c (tJ d 0)))) 32 = pc a 8 + pc (tJ b (tJ c (tJ d 0))) 24 := pc_J ha' 24
    have p2 : pc (tJ b (tJ c (tJ d 0))) 24 = pc b 8 + pc (tJ c (tJ d 0)) 16 := pc_J hb' 16
    have p3 : pc (tJ c (tJ d 0)) 16 = pc c 8 + pc (tJ d 0) 8 := pc_J hc' 8
    have p4 : pc (tJ d 0) 8 = pc d 8 + pc 0 0 := pc_J hd' 0
    rw [p1, p2, p3, p4, show pc 0 0 = 0 from rfl]
    omega
theorem tG1_le (M x : Nat) : tG1 M x ≤ x := Nat.sub_le _ _
theorem tG2_le (M x : Nat) : tG2 M x ≤ 2 * x := by
  have h1 : x &&& M ≤ x := Nat.and_le_left
  have h2 : (x >>> 2) &&& M ≤ x := Nat.le_trans Nat.and_le_left (Nat.shiftRight_le _ _)
  unfold tG2
  omega
theorem shr_le (x k : Nat) : x >>> k ≤ x := Nat.shiftRight_le x k
theorem tV_end {x : Nat} (h : x < 4294967296) : ((((tV3 x + tV3 x >>> 8) + (tV3 x + tV3 x >>> 8) >>> 16) + ((tV3 x + tV3 x >>> 8) + (tV3 x + tV3 x >>> 8) >>> 16) >>> 32) &&& 127) = pc x 32 := by
  obtain ⟨a, b, c, d, ha, hb, hc, hd, e, e2⟩ := tV3_eq h
  rw [show (127 : Nat) = 2 ^ 7 - 1 from rfl, Nat.and_two_pow_sub_one_eq_mod, e, e2]
  have h1 : (a + 256 * b + 65536 * c + 16777216 * d) >>> 8 = b + 256 * c + 65536 * d := by rw [Nat.shiftRight_eq_div_pow]; omega
  rw [h1]
  have h2 : (a + 256 * b + 65536 * c + 16777216 * d + (b + 256 * c + 65536 * d)) >>> 16 = c + d + 256 * d := by rw [Nat.shiftRight_eq_div_pow]; omega
  rw [h2]
  have h3 : (a + 256 * b + 65536 * c + 16777216 * d + (b + 256 * c + 65536 * d) + (c + d + 256 * d)) >>> 32 = 0 := by rw [Nat.shiftRight_eq_div_pow]; omega
  rw [h3]
  omega
