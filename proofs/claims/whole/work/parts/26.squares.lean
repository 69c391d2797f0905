/-! roots, sums of squares, prime numbers -/
def sqN : Nat → Nat
  | 0 => 0
  | n + 1 => if (sqN n + 1) * (sqN n + 1) ≤ n + 1 then sqN n + 1 else sqN n
theorem sqN_spec : ∀ n, sqN n * sqN n ≤ n ∧ n < (sqN n + 1) * (sqN n + 1)
  | 0 => by simp [sqN]
  | n + 1 => by
    obtain ⟨h1, h2⟩ := sqN_spec n
    unfold sqN
    split
    · rename_i h
      refine ⟨h, ?_⟩
      have e : (sqN n + 1 + 1) * (sqN n + 1 + 1) = (sqN n + 1) * (sqN n + 1) + 2 * (sqN n + 1) + 1 := by
        rw [Nat.add_mul (sqN n + 1) 1, Nat.mul_add]; omega
      omega
    · rename_i h
      exact ⟨by omega, by omega⟩
theorem sq_mono {a b : Nat} (h : a ≤ b) : a * a ≤ b * b := Nat.mul_le_mul h h
theorem sqN_uniq {r n : Nat} (h1 : r * r ≤ n) (h2 : n < (r + 1) * (r + 1)) : r = sqN n := by
  obtain ⟨g1, g2⟩ := sqN_spec n
  rcases Nat.lt_trichotomy r (sqN n) with h | h | h
  · have := sq_mono (show r + 1 ≤ sqN n from h); omega
  · exact h
  · have := sq_mono (show sqN n + 1 ≤ r from h); omega
theorem sq_of_le {a n : Nat} (h : a ≤ sqN n) : a * a ≤ n := Nat.le_trans (sq_mono h) (sqN_spec n).1
theorem sqN_sq (a : Nat) : sqN (a * a) = a := (sqN_uniq (Nat.le_refl _) (by rw [Nat.add_mul, Nat.mul_add]; omega)).symm
theorem root_le {r n : Nat} (h : r * r ≤ n) (hn : n ≤ 1000000) : r ≤ 1000 := by
  rcases Nat.lt_or_ge 1000 r with q | q
  · have := sq_mono (show 1001 ≤ r from q); omega
  · exact q
theorem sqN_le {n : Nat} (hn : n ≤ 1000000) : sqN n ≤ 1000 := root_le (sqN_spec n).1 hn
def sn (f : Nat → Nat) : Nat → Nat
  | 0 => 0
  | n + 1 => sn f n + f n
theorem sn_s (f : Nat → Nat) (n : Nat) : sn f (n + 1) = sn f n + f n := rfl
theorem sn_p (f : Nat → Nat) {b : Nat} (h : 0 < b) : sn f b = sn f (b - 1) + f (b - 1) := by
  cases b with
  | zero => omega
  | succ b => rfl
def w1 (n most : Nat) : Nat := if sqN n ≤ most ∧ sqN n * sqN n = n then 1 else 0
def wy : Nat → Nat → Nat → Nat
  | 0, n, most => w1 n most
  | m + 1, n, most => sn (fun a => wy m (n - a * a) a) (min most (sqN n) + 1)
theorem wy_s (m n most : Nat) : wy (m + 1) n most = sn (fun a => wy m (n - a * a) a) (min most (sqN n) + 1) := rfl
theorem w1_iff {l a : Nat} : l = min (sqN l) a * min (sqN l) a ↔ (sqN l ≤ a ∧ sqN l * sqN l = l) := by
  rcases Nat.lt_or_ge a (sqN l) with q | q
  · rw [show min (sqN l) a = a by omega]
    constructor
    · intro h
      have e : sqN l = a := by rw [h]; exact sqN_sq a
      omega
    · intro h; omega
  · rw [show min (sqN l) a = sqN l by omega]
    exact ⟨fun h => ⟨q, h.symm⟩, fun h => h.2.symm⟩
theorem sn_bd {f : Nat → Nat} : ∀ {n : Nat}, (∀ k, k < n → f k ≤ 1) → sn f n ≤ n
  | 0, _ => Nat.le_refl 0
  | n + 1, h => by
    have h1 := sn_bd (f := f) (n := n) (fun k hk => h k (by omega))
    have h2 := h n (by omega)
    rw [sn_s]; omega
theorem wy1_bd {n : Nat} (hn : n ≤ 1000000) (most : Nat) : wy 1 n most ≤ 1001 := by
  have h := sn_bd (f := fun a => wy 0 (n - a * a) a) (n := min most (sqN n) + 1) (fun k _ => by show w1 _ _ ≤ 1; unfold w1; split <;> omega)
  have := sqN_le hn
  rw [wy_s]; omega
/-- has a divisor the rest 3 by 4? -/
def hpb (n : Nat) : Bool := (List.range (n + 1)).any (fun d => n % d == 0 && d % 4 == 3)
theorem hpb_iff {n : Nat} (hn : 0 < n) : hpb n = true ↔ ∃ d, d ∣ n ∧ d % 4 = 3 := by
  simp only [hpb, List.any_eq_true, List.mem_range, Bool.and_eq_true, beq_iff_eq]
  constructor
  · rintro ⟨d, h1, h2, h3⟩
    exact ⟨d, Nat.dvd_of_mod_eq_zero h2, h3⟩
  · rintro ⟨d, h1, h2⟩
    exact ⟨d, Nat.lt_succ_of_le (Nat.le_of_dvd hn h1), Nat.mod_eq_zero_of_dvd h1, h2⟩
theorem hp_end {n d : Nat} (hn : 0 < n) (hd : n < d * d) (h : ∀ e, 0 < e → e < d → ¬ (n % e = 0 ∧ (e % 4 = 3 ∨ n / e % 4 = 3))) : ¬ hpb n = true := by
  intro z
  obtain ⟨e, ⟨f, rfl⟩, h2⟩ := (hpb_iff hn).mp z
  have he : 0 < e := by omega
  have hf : 0 < f := by
    rcases Nat.eq_zero_or_pos f with q | q
    · rw [q, Nat.mul_zero] at hn; omega
    · exact q
  rcases Nat.lt_or_ge e d with q | q
  · exact h e he q ⟨Nat.mul_mod_right e f, Or.inl h2⟩
  · rcases Nat.lt_or_ge f d with r | r
    · exact h f hf r ⟨Nat.mul_mod_left e f, Or.inr (by rw [Nat.mul_div_cancel e hf]; exact h2)⟩
    · have := Nat.mul_le_mul q r; omega
theorem hp_yes {n d : Nat} (hn : 0 < n) (hd : 0 < d) (h1 : n % d = 0) (h : d % 4 = 3 ∨ n / d % 4 = 3) : hpb n = true := by
  refine (hpb_iff hn).mpr ?_
  rcases h with h | h
  · exact ⟨d, Nat.dvd_of_mod_eq_zero h1, h⟩
  · exact ⟨n / d, Nat.div_dvd_of_dvd (Nat.dvd_of_mod_eq_zero h1), h⟩
theorem pw_bd {j : Nat} (h : j ≤ 11) : 2 ^ j ≤ 2048 := Nat.pow_le_pow_right (n := 2) (j := 11) (by decide) h
theorem pw_s {j : Nat} (h : 1 ≤ j) : 2 ^ j = 2 * 2 ^ (j - 1) := by
  obtain ⟨i, rfl⟩ : ∃ i, j = i + 1 := ⟨j - 1, by omega⟩
  rw [Nat.add_sub_cancel, Nat.pow_succ, Nat.mul_comm]
