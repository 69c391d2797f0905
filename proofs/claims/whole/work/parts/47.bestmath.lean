/-! the best rows: a quarter of the rows tells all -/
def cn (p : Nat → Bool) : Nat → Nat
  | 0 => 0
  | m + 1 => cn p m + (if p m then 1 else 0)
theorem cn_le (p : Nat → Bool) : ∀ m, cn p m ≤ m
  | 0 => Nat.le_refl 0
  | m + 1 => by
    have := cn_le p m
    show cn p m + (if p m then 1 else 0) ≤ m + 1
    split <;> omega
theorem cn_cong {p q : Nat → Bool} : ∀ {m : Nat}, (∀ i, i < m → p i = q i) → cn p m = cn q m
  | 0, _ => rfl
  | m + 1, h => by
    show cn p m + (if p m then 1 else 0) = cn q m + (if q m then 1 else 0)
    rw [cn_cong (fun i hi => h i (by omega)), h m (by omega)]
theorem cn_add (p : Nat → Bool) (a : Nat) : ∀ b, cn p (a + b) = cn p a + cn (fun y => p (a + y)) b
  | 0 => rfl
  | b + 1 => by
    show cn p (a + b) + (if p (a + b) then 1 else 0) = cn p a + (cn (fun y => p (a + y)) b + (if p (a + b) then 1 else 0))
    rw [cn_add p a b]
    omega
theorem xor_blk {k c y : Nat} (i j : Nat) (hc : c < 2 ^ k) (hy : y < 2 ^ k) : (2 ^ k * i + y) ^^^ (2 ^ k * j + c) = 2 ^ k * (i ^^^ j) + (y ^^^ c) := by
  apply Nat.eq_of_testBit_eq
  intro b
  rw [Nat.testBit_xor, Nat.testBit_two_pow_mul_add _ hy, Nat.testBit_two_pow_mul_add _ hc, Nat.testBit_two_pow_mul_add _ (Nat.xor_lt_two_pow hy hc)]
  split
  · rw [Nat.testBit_xor]
  · rw [Nat.testBit_xor]
theorem cn_xor (p : Nat → Bool) : ∀ (k c : Nat), c < 2 ^ k → cn (fun y => p (y ^^^ c)) (2 ^ k) = cn p (2 ^ k)
  | 0, c, h => by
    have : c = 0 := by simpa using h
    subst this
    exact cn_cong (fun i _ => by rw [Nat.xor_zero])
  | k + 1, c, h => by
    have e2 : 2 ^ (k + 1) = 2 ^ k + 2 ^ k := by rw [Nat.pow_succ]; omega
    rw [e2, cn_add, cn_add p]
    have hp := cn_xor (fun y => p (2 ^ k + y)) k
    have hq := cn_xor p k
    by_cases g : c < 2 ^ k
    · rw [hq c g, ← hp c g]
      congr 1
      refine cn_cong fun y hy => ?_
      have z := xor_blk (k := k) 1 0 g hy
      rw [Nat.mul_one, Nat.mul_zero, Nat.zero_add, Nat.xor_zero, Nat.mul_one] at z
      show p _ = p _
      rw [z]
    · have hc' : c - 2 ^ k < 2 ^ k := by omega
      have hc : c = 2 ^ k * 1 + (c - 2 ^ k) := by omega
      rw [← hp _ hc', ← hq _ hc', Nat.add_comm]
      congr 1
      · refine cn_cong fun y hy => ?_
        have z := xor_blk (k := k) 1 1 hc' hy
        rw [← hc, Nat.xor_self, Nat.mul_zero, Nat.zero_add, Nat.mul_one] at z
        show p _ = p _
        rw [z]
      · refine cn_cong fun y hy => ?_
        have z := xor_blk (k := k) 0 1 hc' hy
        rw [← hc, Nat.zero_xor, Nat.mul_zero, Nat.zero_add, Nat.mul_one] at z
        show p _ = p _
        rw [z]
/-- the scan: value, least number, many, kinds -/
abbrev BT : Type := Int × Nat × Nat × Nat
def bs (f : Nat → Int) (g : Nat → Bool) (al : Nat) : Nat → BT
  | 0 => (1000000, 0, 0, 0)
  | x + 1 => if f x < (bs f g al x).1 then (f x, x, al, if g x then 1 else 0) else if f x = (bs f g al x).1 then ((bs f g al x).1, (bs f g al x).2.1, (bs f g al x).2.2.1 + al, (bs f g al x).2.2.2 + if g x then 1 else 0) else bs f g al x
section
variable {f : Nat → Int} {g : Nat → Bool} {al : Nat}
theorem bs_lt {x : Nat} (h : f x < (bs f g al x).1) : bs f g al (x + 1) = (f x, x, al, if g x then 1 else 0) := if_pos h
theorem bs_eq {x : Nat} (h : f x = (bs f g al x).1) : bs f g al (x + 1) = ((bs f g al x).1, (bs f g al x).2.1, (bs f g al x).2.2.1 + al, (bs f g al x).2.2.2 + if g x then 1 else 0) := (if_neg (by omega)).trans (if_pos h)
theorem bs_gt {x : Nat} (h : (bs f g al x).1 < f x) : bs f g al (x + 1) = bs f g al x := (if_neg (by omega)).trans (if_neg (by omega))
theorem bs_low : ∀ {x y : Nat}, y < x → (bs f g al x).1 ≤ f y
  | x + 1, y, h => by
    have ih : y < x → (bs f g al x).1 ≤ f y := bs_low
    by_cases h1 : f x < (bs f g al x).1
    · rw [bs_lt h1]
      show f x ≤ f y
      by_cases e : y = x
      · subst e; omega
      · have := ih (by omega); omega
    · by_cases h2 : f x = (bs f g al x).1
      · rw [bs_eq h2]
        show (bs f g al x).1 ≤ f y
        by_cases e : y = x
        · subst e; omega
        · exact ih (by omega)
      · rw [bs_gt (by omega)]
        by_cases e : y = x
        · subst e; omega
        · exact ih (by omega)
theorem bs_al : ∀ x, bs f g al x = ((bs f g 1 x).1, (bs f g 1 x).2.1, al * (bs f g 1 x).2.2.1, (bs f g 1 x).2.2.2)
  | 0 => rfl
  | x + 1 => by
    have ih := bs_al x
    have e1 : (bs f g al x).1 = (bs f g 1 x).1 := by rw [ih]
    by_cases h1 : f x < (bs f g 1 x).1
    · rw [bs_lt h1, bs_lt (by rw [e1]; exact h1)]
      show (_, _, _, _) = (_, _, al * 1, _)
      rw [Nat.mul_one]
    · by_cases h2 : f x = (bs f g 1 x).1
      · rw [bs_eq h2, bs_eq (by rw [e1]; exact h2), ih]
        show (_, _, al * (bs f g 1 x).2.2.1 + al, _) = (_, _, al * ((bs f g 1 x).2.2.1 + 1), _)
        rw [Nat.mul_succ]
      · rw [bs_gt (al := al) (by rw [e1]; omega), bs_gt (al := 1) (by omega), ih]
theorem bs_cn : ∀ x, (bs f g 1 x).2.2.1 = cn (fun y => decide (f y = (bs f g 1 x).1)) x
  | 0 => rfl
  | x + 1 => by
    have ih := bs_cn x
    by_cases h1 : f x < (bs f g 1 x).1
    · rw [bs_lt h1]
      show 1 = cn (fun y => decide (f y = f x)) x + (if decide (f x = f x) = true then 1 else 0)
      have z : cn (fun y => decide (f y = f x)) x = cn (fun _ => false) x := cn_cong (fun i hi => by
        have := bs_low (f := f) (g := g) (al := 1) hi
        exact decide_eq_false (by omega))
      have z0 : ∀ m, cn (fun _ => false) m = 0 := fun m => by
        induction m with
        | zero => rfl
        | succ m ih => show cn _ m + 0 = 0; rw [ih]
      rw [z, z0, if_pos (decide_eq_true rfl)]
    · by_cases h2 : f x = (bs f g 1 x).1
      · rw [bs_eq h2]
        show (bs f g 1 x).2.2.1 + 1 = cn (fun y => decide (f y = (bs f g 1 x).1)) x + (if decide (f x = (bs f g 1 x).1) = true then 1 else 0)
        rw [if_pos (decide_eq_true h2), ih]
      · rw [bs_gt (by omega)]
        show (bs f g 1 x).2.2.1 = cn (fun y => decide (f y = (bs f g 1 x).1)) x + (if decide (f x = (bs f g 1 x).1) = true then 1 else 0)
        rw [if_neg (by rw [decide_eq_true_eq]; exact h2), ih, Nat.add_zero]
theorem bs_ext {q : Nat} : ∀ m, (∀ y, y < m → (bs f g 1 q).1 ≤ f (q + y) ∧ g (q + y) = false) → bs f g 1 (q + m) = ((bs f g 1 q).1, (bs f g 1 q).2.1, (bs f g 1 q).2.2.1 + cn (fun y => decide (f (q + y) = (bs f g 1 q).1)) m, (bs f g 1 q).2.2.2)
  | 0, _ => rfl
  | m + 1, h => by
    have ih := bs_ext m (fun y hy => h y (by omega))
    have hm := h m (by omega)
    have e1 : (bs f g 1 (q + m)).1 = (bs f g 1 q).1 := by rw [ih]
    show bs f g 1 (q + m + 1) = (_, _, _ + (cn _ m + if decide (f (q + m) = (bs f g 1 q).1) = true then 1 else 0), _)
    by_cases h2 : f (q + m) = (bs f g 1 q).1
    · rw [bs_eq (by rw [e1]; exact h2), ih, if_pos (decide_eq_true h2), hm.2]
      rfl
    · rw [bs_gt (by rw [e1]; omega), ih, if_neg (by rw [decide_eq_true_eq]; exact h2), Nat.add_zero]
end
/-- four blocks, each a turned copy of the first -/
theorem bs_four {f : Nat → Int} {g : Nat → Bool} {k : Nat} (cm : Nat → Nat) (hc : ∀ i, 1 ≤ i → i < 4 → cm i / 2 ^ k = i) (hf : ∀ i x, 1 ≤ i → i < 4 → x < 4 * 2 ^ k → f (x ^^^ cm i) = f x) (hg : ∀ i x, 1 ≤ i → i < 4 → x < 4 * 2 ^ k → x ^^^ cm i < x → g x = false) : bs f g 4 (2 ^ k) = bs f g 1 (4 * 2 ^ k) := by
  have hpos : 0 < 2 ^ k := Nat.two_pow_pos k
  have key : ∀ i y, 1 ≤ i → i < 4 → y < 2 ^ k → (2 ^ k * i + y) ^^^ cm i = y ^^^ (cm i % 2 ^ k) ∧ y ^^^ (cm i % 2 ^ k) < 2 ^ k := by
    intro i y h1 h2 hy
    have hm : cm i % 2 ^ k < 2 ^ k := Nat.mod_lt _ hpos
    have e : cm i = 2 ^ k * i + cm i % 2 ^ k := by have := Nat.div_add_mod (cm i) (2 ^ k); rw [hc i h1 h2] at this; exact this.symm
    have z := xor_blk i i hm hy
    rw [← e, Nat.xor_self, Nat.mul_zero, Nat.zero_add] at z
    exact ⟨z, Nat.xor_lt_two_pow hy hm⟩
  have lt4 : ∀ i y, i < 4 → y < 2 ^ k → 2 ^ k * i + y < 4 * 2 ^ k := by
    intro i y hi hy
    rcases (show i = 0 ∨ i = 1 ∨ i = 2 ∨ i = 3 by omega) with r | r | r | r <;> subst r <;> omega
  have fv : ∀ i y, 1 ≤ i → i < 4 → y < 2 ^ k → f (2 ^ k * i + y) = f (y ^^^ (cm i % 2 ^ k)) := by
    intro i y h1 h2 hy
    rw [← (key i y h1 h2 hy).1]
    exact (hf i _ h1 h2 (lt4 i y h2 hy)).symm
  have gv : ∀ i y, 1 ≤ i → i < 4 → y < 2 ^ k → g (2 ^ k * i + y) = false := by
    intro i y h1 h2 hy
    refine hg i _ h1 h2 (lt4 i y h2 hy) ?_
    have := key i y h1 h2 hy
    rw [this.1]
    have h3 : 2 ^ k * 1 ≤ 2 ^ k * i := Nat.mul_le_mul_left _ h1
    omega
  let v := (bs f g 1 (2 ^ k)).1
  have cb : ∀ i, 1 ≤ i → i < 4 → cn (fun y => decide (f (2 ^ k * i + y) = v)) (2 ^ k) = cn (fun y => decide (f y = v)) (2 ^ k) := by
    intro i h1 h2
    rw [← cn_xor (fun y => decide (f y = v)) k (cm i % 2 ^ k) (Nat.mod_lt _ hpos)]
    exact cn_cong (fun y hy => by show decide _ = decide _; rw [fv i y h1 h2 hy])
  have e4 : 4 * 2 ^ k = 2 ^ k + (2 ^ k + (2 ^ k + 2 ^ k)) := by omega
  rw [e4, bs_ext (q := 2 ^ k) (2 ^ k + (2 ^ k + 2 ^ k)) ?_, bs_al, cn_add, cn_add, bs_cn]
  · have c1 := cb 1 (by decide) (by decide)
    have c2 := cb 2 (by decide) (by decide)
    have c3 := cb 3 (by decide) (by decide)
    have s1 : cn (fun y => decide (f (2 ^ k + y) = v)) (2 ^ k) = cn (fun y => decide (f (2 ^ k * 1 + y) = v)) (2 ^ k) := cn_cong (fun y _ => by rw [Nat.mul_one])
    have s2 : cn (fun y => decide (f (2 ^ k + (2 ^ k + y)) = v)) (2 ^ k) = cn (fun y => decide (f (2 ^ k * 2 + y) = v)) (2 ^ k) := cn_cong (fun y _ => by rw [show 2 ^ k * 2 + y = 2 ^ k + (2 ^ k + y) by omega])
    have s3 : cn (fun y => decide (f (2 ^ k + (2 ^ k + (2 ^ k + y))) = v)) (2 ^ k) = cn (fun y => decide (f (2 ^ k * 3 + y) = v)) (2 ^ k) := cn_cong (fun y _ => by rw [show 2 ^ k * 3 + y = 2 ^ k + (2 ^ k + (2 ^ k + y)) by omega])
    show (v, _, 4 * cn (fun y => decide (f y = v)) (2 ^ k), _) = (v, _, cn (fun y => decide (f y = v)) (2 ^ k) + (cn (fun y => decide (f (2 ^ k + y) = v)) (2 ^ k) + (cn (fun y => decide (f (2 ^ k + (2 ^ k + y)) = v)) (2 ^ k) + cn (fun y => decide (f (2 ^ k + (2 ^ k + (2 ^ k + y))) = v)) (2 ^ k))), _)
    rw [s1, s2, s3, c1, c2, c3]
    congr 3
    omega
  · intro y hy
    have : ∃ i z, 1 ≤ i ∧ i < 4 ∧ z < 2 ^ k ∧ 2 ^ k + y = 2 ^ k * i + z := by
      by_cases h1 : y < 2 ^ k
      · exact ⟨1, y, by omega, by omega, h1, by omega⟩
      · by_cases h2 : y < 2 * 2 ^ k
        · exact ⟨2, y - 2 ^ k, by omega, by omega, by omega, by omega⟩
        · exact ⟨3, y - 2 * 2 ^ k, by omega, by omega, by omega, by omega⟩
    obtain ⟨i, z, h1, h2, hz, he⟩ := this
    rw [he]
    exact ⟨by rw [fv i z h1 h2 hz]; exact bs_low (key i z h1 h2 hz).2, gv i z h1 h2 hz⟩
/-- PEAK and ENERGY, and the turns that keep them -/
def fm (n : Nat) (way : Int) (x : Nat) : Int := if way = 0 then (pkL n x n : Int) else enL n x n
def gm (n x : Nat) : Bool := decide (ltw n x 8 = x)
def secm (n : Nat) : Nat := 2863311530 &&& (2 ^ n - 1)
def cmk (n i : Nat) : Nat := if i = 3 then 2 ^ n - 1 else if (i + n) % 2 = 0 then secm n else (2 ^ n - 1) ^^^ secm n
theorem cmk_div : ∀ n, n < 15 → 2 ≤ n → ∀ i, i < 4 → 1 ≤ i → cmk n i / 2 ^ (n - 2) = i := by decide +kernel
theorem si_neg {f g : Nat → Int} : ∀ {n : Nat}, (∀ k, k < n → f k = - g k) → si f n = - si g n
  | 0, _ => rfl
  | n + 1, h => by
    show si f n + f n = - (si g n + g n)
    rw [si_neg (fun k hk => h k (by omega)), h n (by omega)]
    omega
theorem pm_op {n x i : Nat} (hi : i < n) : pm (x ^^^ (2 ^ n - 1)) i = - pm x i := by
  unfold pm
  rw [Nat.testBit_xor, Nat.testBit_two_pow_sub_one, decide_eq_true hi]
  cases x.testBit i <;> rfl
theorem pm_sec {n x i : Nat} (hn : n ≤ 32) (hi : i < n) : pm (x ^^^ secm n) i = if i % 2 = 1 then - pm x i else pm x i := by
  unfold pm secm
  rw [Nat.testBit_xor, Nat.testBit_and, Nat.testBit_two_pow_sub_one, decide_eq_true hi, odd_tb i (by omega), Bool.and_true]
  by_cases h : i % 2 = 1
  · rw [if_pos h, decide_eq_true h]; cases x.testBit i <;> rfl
  · rw [if_neg h, decide_eq_false h]; cases x.testBit i <;> rfl
theorem oS_op (n x k : Nat) : oS n (x ^^^ (2 ^ n - 1)) k = oS n x k := si_cong (fun i hi => by
  show pm _ i * pm _ (i + k) = _
  rw [pm_op (by omega), pm_op (by omega), Int.neg_mul_neg])
theorem oS_sec {n : Nat} (hn : n ≤ 32) (x k : Nat) : oS n (x ^^^ secm n) k = if k % 2 = 1 then - oS n x k else oS n x k := by
  by_cases hk : k % 2 = 1
  · rw [if_pos hk]
    refine si_neg (fun i hi => ?_)
    show pm _ i * pm _ (i + k) = -(pm x i * pm x (i + k))
    rw [pm_sec hn (by omega), pm_sec hn (by omega)]
    by_cases h : i % 2 = 1
    · rw [if_pos h, if_neg (by omega), Int.neg_mul]
    · rw [if_neg h, if_pos (by omega), Int.mul_neg]
  · rw [if_neg hk]
    refine si_cong (fun i hi => ?_)
    show pm _ i * pm _ (i + k) = pm x i * pm x (i + k)
    rw [pm_sec hn (by omega), pm_sec hn (by omega)]
    by_cases h : i % 2 = 1
    · rw [if_pos h, if_pos (by omega), Int.neg_mul_neg]
    · rw [if_neg h, if_neg (by omega)]
theorem fm_ab {n x y : Nat} (h : ∀ k, oS n y k = oS n x k ∨ oS n y k = - oS n x k) (way : Int) : fm n way y = fm n way x := by
  have h1 : ∀ m, pkL n y m = pkL n x m := fun m => by
    induction m with
    | zero => rfl
    | succ m ih =>
      show (if m = 0 then 0 else max (pkL n y m) (oS n y m).natAbs) = (if m = 0 then 0 else max (pkL n x m) (oS n x m).natAbs)
      rw [ih]
      rcases h m with e | e <;> rw [e]
      rw [Int.natAbs_neg]
  have h2 : ∀ m, enL n y m = enL n x m := fun m => by
    induction m with
    | zero => rfl
    | succ m ih =>
      show (if m = 0 then 0 else enL n y m + oS n y m * oS n y m) = (if m = 0 then 0 else enL n x m + oS n x m * oS n x m)
      rw [ih]
      rcases h m with e | e <;> rw [e]
      rw [Int.neg_mul_neg]
  unfold fm
  rw [h1, h2]
theorem fm_op (n x : Nat) (way : Int) : fm n way (x ^^^ (2 ^ n - 1)) = fm n way x := fm_ab (fun k => Or.inl (oS_op n x k)) way
theorem fm_sec {n : Nat} (hn : n ≤ 32) (x : Nat) (way : Int) : fm n way (x ^^^ secm n) = fm n way x := fm_ab (fun k => by
  rw [oS_sec hn]
  split
  · exact Or.inr rfl
  · exact Or.inl rfl) way
theorem ltw_leT (n x : Nat) : ∀ {m w : Nat}, w < m → ltw n x m ≤ TWw n x w
  | m + 1, w, h => by
    show min (ltw n x m) (TWw n x m) ≤ _
    by_cases e : w = m
    · subst e; exact Nat.min_le_right _ _
    · exact Nat.le_trans (Nat.min_le_left _ _) (ltw_leT n x (by omega))
theorem x_op {n x : Nat} (hx : x < 2 ^ n) : x ^^^ (2 ^ n - 1) = TWw n x 2 := by
  have := TW_op n x false
  rw [← TW_x hx] at this
  exact this
theorem x_sec {n x : Nat} (hn : n ≤ 32) (hx : x < 2 ^ n) : x ^^^ secm n = TWw n x 4 := by
  have := TW_sec hn x false false
  rw [← TW_x hx] at this
  exact this
theorem x_ops {n x : Nat} (hn : n ≤ 32) (hx : x < 2 ^ n) : x ^^^ ((2 ^ n - 1) ^^^ secm n) = TWw n x 6 := by
  have := TW_sec hn x false true
  rw [← TW_op n x false, ← TW_x hx] at this
  rw [← Nat.xor_assoc]
  exact this
theorem cmk_is {n i : Nat} (x : Nat) (hn : n ≤ 32) (way : Int) : fm n way (x ^^^ cmk n i) = fm n way x ∧ (x < 2 ^ n → ∃ w, w < 8 ∧ x ^^^ cmk n i = TWw n x w) := by
  unfold cmk
  split
  · exact ⟨fm_op n x way, fun h => ⟨2, by decide, x_op h⟩⟩
  · split
    · exact ⟨fm_sec hn x way, fun h => ⟨4, by decide, x_sec hn h⟩⟩
    · exact ⟨by rw [← Nat.xor_assoc, fm_sec hn, fm_op], fun h => ⟨6, by decide, x_ops hn h⟩⟩
def alk (n : Nat) : Nat := if n = 1 then 2 else 4
theorem bs_best {n : Nat} (way : Int) (h1 : 1 ≤ n) (h14 : n ≤ 14) : bs (fm n way) (gm n) (alk n) (2 ^ n / alk n) = bs (fm n way) (gm n) 1 (2 ^ n) := by
  by_cases e : n = 1
  · subst e
    have z : ∀ way : Int, way = 0 ∨ ¬ way = 0 := fun w => by omega
    have f0 : fm 1 way = fun x => if way = 0 then (pkL 1 x 1 : Int) else enL 1 x 1 := rfl
    have f1 : fm 1 way = fun _ => 0 := by
      funext x
      rw [f0]
      show (if way = 0 then (((if 0 = 0 then 0 else max (pkL 1 x 0) (oS 1 x 0).natAbs) : Nat) : Int) else (if 0 = 0 then 0 else enL 1 x 0 + oS 1 x 0 * oS 1 x 0)) = 0
      rw [if_pos rfl, if_pos rfl]
      split <;> rfl
    rw [f1]
    decide +kernel
  · obtain ⟨k, rfl⟩ : ∃ k, n = k + 2 := ⟨n - 2, by omega⟩
    have e2 : 2 ^ (k + 2) = 4 * 2 ^ k := by rw [Nat.pow_add]; omega
    have ek : k + 2 - 2 = k := by omega
    have ea : alk (k + 2) = 4 := if_neg e
    rw [ea, e2, Nat.mul_div_cancel_left _ (by decide)]
    refine bs_four (cmk (k + 2)) ?_ ?_ ?_
    · intro i a b
      have := cmk_div (k + 2) (by omega) (by omega) i b a
      rw [ek] at this
      exact this
    · intro i x _ _ _
      exact (cmk_is x (by omega) way).1
    · intro i x _ _ hx hl
      obtain ⟨w, hw, hz⟩ := (cmk_is (n := k + 2) (i := i) x (by omega) way).2 (by omega)
      have := ltw_leT (k + 2) x hw
      exact decide_eq_false (by omega)
