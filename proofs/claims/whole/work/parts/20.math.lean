/-! the numbers behind both sides: rows as their numbers' bits -/
def pm (x i : Nat) : Int := if x.testBit i then -1 else 1
theorem pm_or (x i : Nat) : pm x i = 1 ∨ pm x i = -1 := by unfold pm; split <;> simp
def si (f : Nat → Int) : Nat → Int
  | 0 => 0
  | n + 1 => si f n + f n
theorem si_cong {f g : Nat → Int} : ∀ {n : Nat}, (∀ k, k < n → f k = g k) → si f n = si g n
  | 0, _ => rfl
  | n + 1, h => by
    show si f n + f n = si g n + g n
    rw [si_cong (fun k hk => h k (by omega)), h n (by omega)]
theorem si_bd {f : Nat → Int} : ∀ {n : Nat}, (∀ k, k < n → -1 ≤ f k ∧ f k ≤ 1) → -(n : Int) ≤ si f n ∧ si f n ≤ n
  | 0, _ => by simp [si]
  | n + 1, h => by
    have h1 := si_bd (f := f) (n := n) (fun k hk => h k (by omega))
    have h2 := h n (by omega)
    show -((n + 1 : Nat) : Int) ≤ si f n + f n ∧ si f n + f n ≤ ((n + 1 : Nat) : Int)
    omega
theorem pm_mul (x y i j : Nat) : -1 ≤ pm x i * pm y j ∧ pm x i * pm y j ≤ 1 := by
  rcases pm_or x i with h | h <;> rcases pm_or y j with g | g <;> rw [h, g] <;> decide
def oS (n x k : Nat) : Int := si (fun i => pm x i * pm x (i + k)) (n - k)
def rS (n x k : Nat) : Int := si (fun i => pm x i * pm x ((i + k) % n)) n
theorem oS_bd (n x k : Nat) : -(n : Int) ≤ oS n x k ∧ oS n x k ≤ n := by
  have h := si_bd (f := fun i => pm x i * pm x (i + k)) (n := n - k) (fun j _ => pm_mul x x j (j + k))
  unfold oS
  omega
theorem rS_bd (n x k : Nat) : -(n : Int) ≤ rS n x k ∧ rS n x k ≤ n := si_bd (f := fun i => pm x i * pm x ((i + k) % n)) (n := n) (fun j _ => pm_mul x x j ((j + k) % n))
/-- how many of the lowest places are set -/
def pc (x : Nat) : Nat → Nat
  | 0 => 0
  | n + 1 => pc x n + (if x.testBit n then 1 else 0)
theorem pc_le (x : Nat) : ∀ n, pc x n ≤ n
  | 0 => Nat.le_refl 0
  | n + 1 => by
    have h := pc_le x n
    show pc x n + (if x.testBit n then 1 else 0) ≤ n + 1
    split <;> omega
theorem pc_cong {x y : Nat} : ∀ {n : Nat}, (∀ i, i < n → x.testBit i = y.testBit i) → pc x n = pc y n
  | 0, _ => rfl
  | n + 1, h => by
    show pc x n + (if x.testBit n then 1 else 0) = pc y n + (if y.testBit n then 1 else 0)
    rw [pc_cong (fun i hi => h i (by omega)), h n (by omega)]
theorem pc_hi {x m : Nat} : ∀ {n : Nat}, m ≤ n → (∀ i, m ≤ i → x.testBit i = false) → pc x n = pc x m
  | 0, h, _ => by rw [Nat.le_zero.mp h]
  | n + 1, h, g => by
    rcases Nat.lt_or_ge n m with q | q
    · rw [show m = n + 1 by omega]
    · show pc x n + (if x.testBit n then 1 else 0) = pc x m
      rw [g n q, pc_hi q g]
      rfl
theorem tb_mask (x m i : Nat) : (x &&& (2 ^ m - 1)).testBit i = (decide (i < m) && x.testBit i) := by
  rw [Nat.testBit_and, Nat.testBit_two_pow_sub_one, Bool.and_comm]
theorem pc_mask (y : Nat) {m n : Nat} (h : m ≤ n) : pc (y &&& (2 ^ m - 1)) n = pc y m := by
  rw [pc_hi h (fun i hi => by rw [tb_mask]; simp; intro; omega)]
  exact pc_cong (fun i hi => by rw [tb_mask]; simp [hi])
theorem tb_shr (x k i : Nat) : (x >>> k).testBit i = x.testBit (k + i) := Nat.testBit_shiftRight x
theorem tb_shl (x k i : Nat) : (x <<< k).testBit i = (decide (k ≤ i) && x.testBit (i - k)) := by rw [Nat.testBit_shiftLeft]
theorem tb_lt {x n i : Nat} (h : x < 2 ^ n) (hi : n ≤ i) : x.testBit i = false := Nat.testBit_lt_two_pow (Nat.lt_of_lt_of_le h (Nat.pow_le_pow_right (by decide) hi))
theorem lt_tb {x n : Nat} (h : ∀ i, n ≤ i → x.testBit i = false) : x < 2 ^ n := Nat.lt_pow_two_of_testBit x h
theorem pm_x (x y i j : Nat) : pm x i * pm y j = 1 - 2 * ((if (x.testBit i ^^ y.testBit j) then 1 else 0 : Nat) : Int) := by
  unfold pm
  cases x.testBit i <;> cases y.testBit j <;> rfl
theorem si_pc {f : Nat → Int} {y : Nat} : ∀ {n : Nat}, (∀ i, i < n → f i = 1 - 2 * ((if y.testBit i then 1 else 0 : Nat) : Int)) → si f n = (n : Int) - 2 * (pc y n : Int)
  | 0, _ => by simp [si, pc]
  | n + 1, h => by
    have h1 := si_pc (f := f) (y := y) (n := n) (fun i hi => h i (by omega))
    have h2 := h n (by omega)
    show si f n + f n = ((n + 1 : Nat) : Int) - 2 * ((pc y n + (if y.testBit n then 1 else 0) : Nat) : Int)
    rw [h1, h2]
    omega
theorem oS_pc {n x k : Nat} (hn : n ≤ 32) : oS n x k = ((n - k : Nat) : Int) - 2 * (pc ((x ^^^ (x >>> k)) &&& (2 ^ (n - k) - 1)) 32 : Int) := by
  rw [pc_mask _ (by omega)]
  exact si_pc (fun i hi => by rw [pm_x, Nat.testBit_xor, tb_shr, Nat.add_comm k i])
theorem rS_tb {n x k i : Nat} (hx : x < 2 ^ n) (hk : k < n) (hi : i < n) : (((x >>> k) ||| (x <<< (n - k))) &&& (2 ^ n - 1)).testBit i = x.testBit ((i + k) % n) := by
  rw [tb_mask, Nat.testBit_or, tb_shr, tb_shl]
  rcases Nat.lt_or_ge (i + k) n with q | q
  · rw [Nat.mod_eq_of_lt q, Nat.add_comm k i]
    simp [hi, show ¬ n - k ≤ i by omega]
  · rw [tb_lt hx (show n ≤ k + i by omega), show (i + k) % n = i - (n - k) by rw [Nat.mod_eq_sub_mod q, Nat.mod_eq_of_lt (by omega)]; omega]
    simp [hi, show n - k ≤ i by omega]
theorem rS_pc {n x k : Nat} (hn : n ≤ 32) (hx : x < 2 ^ n) (hk : k < n) : rS n x k = (n : Int) - 2 * (pc (x ^^^ (((x >>> k) ||| (x <<< (n - k))) &&& (2 ^ n - 1))) 32 : Int) := by
  rw [pc_hi hn (fun i hi => by rw [Nat.testBit_xor, tb_lt hx hi, tb_mask]; simp; intro; omega)]
  exact si_pc (fun i hi => by rw [pm_x, Nat.testBit_xor, rS_tb hx hk hi])
def tot (n x : Nat) : Int := si (pm x) n
theorem tot_pc {n x : Nat} (hn : n ≤ 32) (hx : x < 2 ^ n) : tot n x = (n : Int) - 2 * (pc x 32 : Int) := by
  rw [pc_hi hn (fun i hi => tb_lt hx hi)]
  exact si_pc (fun i hi => by unfold pm; cases x.testBit i <;> rfl)
def chS (n x : Nat) : Nat := pc (x ^^^ (x >>> 1)) (n - 1)
theorem chS_pc {n x : Nat} (hn : n ≤ 32) : chS n x = pc ((x ^^^ (x >>> 1)) &&& (2 ^ (n - 1) - 1)) 32 := (pc_mask _ (by omega)).symm
/-- the greatest of the open sums 1 to m - 1 without their signs -/
def pkL (n x : Nat) : Nat → Nat
  | 0 => 0
  | m + 1 => if m = 0 then 0 else max (pkL n x m) (oS n x m).natAbs
def enL (n x : Nat) : Nat → Int
  | 0 => 0
  | m + 1 => if m = 0 then 0 else enL n x m + oS n x m * oS n x m
theorem pkL_s (n x : Nat) {m : Nat} (h : 1 ≤ m) : pkL n x (m + 1) = max (pkL n x m) (oS n x m).natAbs := by
  show (if m = 0 then 0 else max (pkL n x m) (oS n x m).natAbs) = _
  rw [if_neg (by omega)]
theorem enL_s (n x : Nat) {m : Nat} (h : 1 ≤ m) : enL n x (m + 1) = enL n x m + oS n x m * oS n x m := by
  show (if m = 0 then 0 else enL n x m + oS n x m * oS n x m) = _
  rw [if_neg (by omega)]
theorem pkL_bd (n x : Nat) : ∀ m, pkL n x m ≤ n
  | 0 => Nat.zero_le n
  | m + 1 => by
    have h := pkL_bd n x m
    have g := oS_bd n x m
    show (if m = 0 then 0 else max (pkL n x m) (oS n x m).natAbs) ≤ n
    split <;> omega
def ff (f : Nat → Int) : Nat → Nat → Nat
  | _, 0 => 0
  | k, m + 1 => if f k ≠ 0 then k else ff f (k + 1) m
theorem ff_s (f : Nat → Int) {k n : Nat} (h : k < n) : ff f k (n - k) = if f k ≠ 0 then k else ff f (k + 1) (n - (k + 1)) := by
  rw [show n - k = (n - (k + 1)) + 1 by omega]
  rfl
theorem ff_e (f : Nat → Int) {k n : Nat} (h : n ≤ k) : ff f k (n - k) = 0 := by rw [show n - k = 0 by omega]; rfl
theorem ff_le (f : Nat → Int) : ∀ m k, ff f k m ≤ k + m
  | 0, k => Nat.zero_le _
  | m + 1, k => by
    have h := ff_le f m (k + 1)
    show (if f k ≠ 0 then k else ff f (k + 1) m) ≤ _
    split <;> omega
/-- a number by its bits -/
def ob (f : Nat → Bool) : Nat → Nat
  | 0 => 0
  | n + 1 => ob f n ||| (if f n then 1 <<< n else 0)
theorem ob_tb (f : Nat → Bool) (i : Nat) : ∀ n, (ob f n).testBit i = (decide (i < n) && f i)
  | 0 => by simp [ob]
  | n + 1 => by
    show (ob f n ||| (if f n then 1 <<< n else 0)).testBit i = _
    rw [Nat.testBit_or, ob_tb f i n]
    by_cases h : i = n
    · subst h
      cases hf : f i <;> simp [Nat.one_shiftLeft]
    · have e : (if f n then 1 <<< n else 0 : Nat).testBit i = false := by
        split
        · rw [Nat.one_shiftLeft, Nat.testBit_two_pow]
          simp; omega
        · exact Nat.zero_testBit i
      rw [e]
      by_cases q : i < n
      · simp [q, show i < n + 1 by omega]
      · simp [q, show ¬ i < n + 1 by omega]
theorem ob_lt (f : Nat → Bool) (n : Nat) : ob f n < 2 ^ n := lt_tb (fun i hi => by rw [ob_tb]; simp; intro; omega)
theorem ob_eq {x n : Nat} {f : Nat → Bool} (hx : x < 2 ^ n) (h : ∀ i, i < n → x.testBit i = f i) : x = ob f n := by
  apply Nat.eq_of_testBit_eq
  intro i
  rw [ob_tb]
  by_cases q : i < n
  · simp [q, h i q]
  · rw [tb_lt hx (by omega)]; simp [q]
theorem ob_cong {f g : Nat → Bool} {n : Nat} (h : ∀ i, i < n → f i = g i) : ob f n = ob g n := ob_eq (ob_lt f n) (fun i hi => by rw [ob_tb]; simp [hi, h i hi])
