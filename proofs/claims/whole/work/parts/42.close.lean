theorem fb_holes : ∀ (m n : Nat) (f : Nat → Nat), (∀ i, i < n → f i < m) → (∀ i j, i < j → j < n → f i ≠ f j) → n ≤ m := by
  intro m
  induction m with
  | zero =>
    intro n f h1 _
    rcases Nat.eq_zero_or_pos n with h | h
    · omega
    · exact absurd (h1 0 h) (Nat.not_lt_zero _)
  | succ m ih =>
    intro n f h1 h2
    by_cases hx : ∃ i, i < n ∧ f i = m
    · obtain ⟨a, ha, hfa⟩ := hx
      have hg := ih (n - 1) (fun i => if i < a then f i else f (i + 1)) (by
        intro i hi
        by_cases q : i < a
        · simp only [if_pos q]
          have b1 := h1 i (by omega)
          have b2 := h2 i a q ha
          omega
        · simp only [if_neg q]
          have b1 := h1 (i + 1) (by omega)
          have b2 := h2 a (i + 1) (by omega) (by omega)
          omega) (by
        intro i j hij hj
        by_cases q : i < a
        · by_cases r : j < a
          · simp only [if_pos q, if_pos r]
            exact h2 i j hij (by omega)
          · simp only [if_pos q, if_neg r]
            exact h2 i (j + 1) (by omega) (by omega)
        · have r : ¬ j < a := by omega
          simp only [if_neg q, if_neg r]
          exact h2 (i + 1) (j + 1) (by omega) (by omega))
      omega
    · have hg := ih n f (fun i hi => by
        have b1 := h1 i hi
        have b2 : f i ≠ m := fun e => hx ⟨i, hi, e⟩
        omega) h2
      omega
/-! all that a row becomes by turns -/
theorem trn_TW0 (n x : Nat) (b s t : Bool) : trn n (TW n x b s t) 0 = TW n x (!b) (s ^^ (t && decide ((n - 1) % 2 = 1))) t := by
  unfold trn
  refine ob_cong (fun i hi => ?_)
  have e1 : n - 1 - (n - 1 - i) = i := by omega
  have e2 : decide ((n - 1 - i) % 2 = 1) = (decide ((n - 1) % 2 = 1) ^^ decide (i % 2 = 1)) := by
    rcases (show (n - 1) % 2 = 0 ∨ (n - 1) % 2 = 1 by omega) with h | h <;> rcases (show i % 2 = 0 ∨ i % 2 = 1 by omega) with g | g
    · simp [h, g, show (n - 1 - i) % 2 = 0 by omega]
    · simp [h, g, show (n - 1 - i) % 2 = 1 by omega]
    · simp [h, g, show (n - 1 - i) % 2 = 1 by omega]
    · simp [h, g, show (n - 1 - i) % 2 = 0 by omega]
  simp only [tf, TW, ob_tb]
  simp only [show n - 1 - i < n by omega, decide_true, Bool.true_and, if_true, e2]
  cases b <;> simp only [if_true, if_false, e1, Bool.not_true, Bool.not_false, Bool.false_eq_true] <;> cases s <;> cases t <;> cases decide ((n - 1) % 2 = 1) <;> cases decide (i % 2 = 1) <;> simp
theorem trn_TW1 (n x : Nat) (b s t : Bool) : trn n (TW n x b s t) 1 = TW n x b (!s) t := by
  unfold trn
  refine ob_cong (fun i hi => ?_)
  simp only [tf, TW, ob_tb, hi, decide_true, Bool.true_and]
  by_cases q : i % 2 = 1 <;> cases b <;> cases s <;> cases t <;> simp [hi, q]
theorem trn_TW2 (n x : Nat) (b s t : Bool) : trn n (TW n x b s t) 2 = TW n x b s (!t) := by
  unfold trn
  refine ob_cong (fun i hi => ?_)
  simp only [tf, TW, ob_tb, hi, decide_true, Bool.true_and]
  by_cases q : i % 2 = 1 <;> cases b <;> cases s <;> cases t <;> simp [hi, q]
theorem TW_w (n x : Nat) (b s t : Bool) : ∃ w, w < 8 ∧ TW n x b s t = TWw n x w := by
  have h : ∃ w, w < 8 ∧ w.testBit 0 = b ∧ w.testBit 1 = s ∧ w.testBit 2 = t := by
    cases b <;> cases s <;> cases t
    · exact ⟨0, by decide⟩
    · exact ⟨4, by decide⟩
    · exact ⟨2, by decide⟩
    · exact ⟨6, by decide⟩
    · exact ⟨1, by decide⟩
    · exact ⟨5, by decide⟩
    · exact ⟨3, by decide⟩
    · exact ⟨7, by decide⟩
  obtain ⟨w, h1, h2, h3, h4⟩ := h
  exact ⟨w, h1, by unfold TWw; rw [h2, h3, h4]⟩
theorem trn_w (n x w way : Nat) (hw : way < 3) : ∃ w2, w2 < 8 ∧ trn n (TWw n x w) way = TWw n x w2 := by
  rcases (show way = 0 ∨ way = 1 ∨ way = 2 by omega) with h | h | h <;> subst h <;> unfold TWw
  · rw [trn_TW0]; exact TW_w _ _ _ _ _
  · rw [trn_TW1]; exact TW_w _ _ _ _ _
  · rw [trn_TW2]; exact TW_w _ _ _ _ _
/-- what has been found: all of it turned ones, each once, the least among it -/
def TI (n x fm : Nat) (fd : Nat → Nat) (ls : Nat) : Prop := 1 ≤ fm ∧ fd 0 = x ∧ (∀ i, i < fm → ∃ w, w < 8 ∧ fd i = TWw n x w) ∧ (∀ i j, i < j → j < fm → fd i ≠ fd j) ∧ (∀ i, i < fm → ls ≤ fd i) ∧ ∃ i, i < fm ∧ ls = fd i
theorem img_le {n x m : Nat} {fd : Nat → Nat} (h : ∀ i, i < m → ∃ w, w < 8 ∧ fd i = TWw n x w) (hd : ∀ i j, i < j → j < m → fd i ≠ fd j) : m ≤ 8 := by
  have hc : ∃ f : Nat → Nat, ∀ i, i < m → f i < 8 ∧ fd i = TWw n x (f i) := ⟨fun i => if q : i < m then (h i q).choose else 0, fun i q => by
    simp only [dif_pos q]
    exact (h i q).choose_spec⟩
  obtain ⟨f, hf⟩ := hc
  exact fb_holes 8 m f (fun i hi => (hf i hi).1) (fun i j hij hj e => hd i j hij hj (by rw [(hf i (by omega)).2, (hf j hj).2, e]))
theorem TI_le {n x fm : Nat} {fd : Nat → Nat} {ls : Nat} (h : TI n x fm fd ls) : fm ≤ 8 := img_le h.2.2.1 h.2.2.2.1
theorem TI_lt {n x fm : Nat} {fd : Nat → Nat} {ls : Nat} (h : TI n x fm fd ls) {i : Nat} (hi : i < fm) : fd i < 2 ^ n := by
  obtain ⟨w, -, e⟩ := h.2.2.1 i hi
  rw [e]; exact TWw_lt n x w
theorem TI_ls {n x fm : Nat} {fd : Nat → Nat} {ls : Nat} (h : TI n x fm fd ls) : ls < 2 ^ n := by
  obtain ⟨i, hi, e⟩ := h.2.2.2.2.2
  rw [e]; exact TI_lt h hi
theorem TI_0 {n x : Nat} (hx : x < 2 ^ n) (fd : Nat → Nat) : TI n x 1 (va_up fd 0 x) x := by
  refine ⟨Nat.le_refl 1, by simp [va_up], fun i hi => ⟨0, by decide, ?_⟩, fun i j hij hj => by omega, fun i hi => ?_, 0, by decide, by simp [va_up]⟩
  · rw [show i = 0 by omega, TWw_0 hx]; simp [va_up]
  · rw [show i = 0 by omega]; simp [va_up]
theorem TI_add {n x fm k way v : Nat} {fd : Nat → Nat} {ls : Nat} (h : TI n x fm fd ls) (hk : k < fm) (hw : way < 3) (hv : v = trn n (fd k) way) (hn : ∀ i, i < fm → fd i ≠ v) : TI n x (fm + 1) (va_up fd fm v) (min v ls) := by
  obtain ⟨h1, h2, h3, h4, h5, i0, h6, h7⟩ := h
  have old : ∀ i, i < fm → va_up fd fm v i = fd i := fun i hi => by simp [va_up, show ¬ i = fm by omega]
  have new : va_up fd fm v fm = v := by simp [va_up]
  refine ⟨by omega, by rw [old 0 (by omega)]; exact h2, fun i hi => ?_, fun i j hij hj => ?_, fun i hi => ?_, ?_⟩
  · rcases Nat.lt_succ_iff_lt_or_eq.mp hi with q | q
    · rw [old i q]; exact h3 i q
    · rw [q, new, hv]
      obtain ⟨w, hw1, e⟩ := h3 k hk
      rw [e]; exact trn_w n x w way hw
  · rcases Nat.lt_succ_iff_lt_or_eq.mp hj with q | q
    · rw [old i (by omega), old j q]; exact h4 i j hij q
    · rw [old i (by omega), q, new]; exact hn i (by omega)
  · rcases Nat.lt_succ_iff_lt_or_eq.mp hi with q | q
    · rw [old i q]; have := h5 i q; omega
    · rw [q, new]; omega
  · rcases Nat.lt_or_ge v ls with q | q
    · exact ⟨fm, by omega, by rw [new]; omega⟩
    · exact ⟨i0, by omega, by rw [old i0 h6, ← h7]; omega⟩
theorem TI_fd {n x fm : Nat} {fd : Nat → Nat} {ls : Nat} (h : TI n x fm fd ls) {v : Nat} {P : Nat → Prop} (hP : ∃ j, j < fm ∧ fd j = v) (w : Nat) : ∃ j, j < fm + 1 ∧ va_up fd fm w j = v := by
  obtain ⟨j, h1, h2⟩ := hP
  exact ⟨j, by omega, by simp [va_up, show ¬ j = fm by omega, h2]⟩
theorem cl_add {fm : Nat} {fd : Nat → Nat} {v : Nat} (hP : ∃ j, j < fm ∧ fd j = v) (w : Nat) : ∃ j, j < fm + 1 ∧ va_up fd fm w j = v := by
  obtain ⟨j, h1, h2⟩ := hP
  exact ⟨j, by omega, by simp [va_up, show ¬ j = fm by omega, h2]⟩
theorem TI_all {n x fm : Nat} {fd : Nat → Nat} {ls : Nat} (hx : x < 2 ^ n) (h : TI n x fm fd ls) (hc : ∀ i, i < fm → ∀ w, w < 3 → ∃ j, j < fm ∧ fd j = trn n (fd i) w) (w : Nat) : ∃ j, j < fm ∧ fd j = TWw n x w := by
  have s0 : ∃ j, j < fm ∧ fd j = TW n x false false false := ⟨0, h.1, by rw [h.2.1]; exact TW_x hx⟩
  have s1 : ∀ b, ∃ j, j < fm ∧ fd j = TW n x b false false := fun b => by
    cases b
    · exact s0
    · obtain ⟨j, hj, e⟩ := hc 0 h.1 0 (by decide)
      exact ⟨j, hj, by rw [e, h.2.1]; exact TW_00 hx⟩
  have s2 : ∀ b s, ∃ j, j < fm ∧ fd j = TW n x b s false := fun b s => by
    cases s
    · exact s1 b
    · obtain ⟨i, hi, ei⟩ := s1 b
      obtain ⟨j, hj, e⟩ := hc i hi 1 (by decide)
      exact ⟨j, hj, by rw [e, ei]; exact TW_1 n x b⟩
  have s3 : ∀ b s t, ∃ j, j < fm ∧ fd j = TW n x b s t := fun b s t => by
    cases t
    · exact s2 b s
    · obtain ⟨i, hi, ei⟩ := s2 b s
      obtain ⟨j, hj, e⟩ := hc i hi 2 (by decide)
      exact ⟨j, hj, by rw [e, ei]; exact TW_2 n x b s⟩
  exact s3 _ _ _
theorem ltw_le (n x : Nat) : ∀ m w, w < m → ltw n x m ≤ TWw n x w
  | 0, w, h => absurd h (Nat.not_lt_zero w)
  | m + 1, w, h => by
    show min (ltw n x m) (TWw n x m) ≤ _
    rcases Nat.lt_succ_iff_lt_or_eq.mp h with q | q
    · have := ltw_le n x m w q; omega
    · subst q; omega
theorem ltw_ex {n x : Nat} (hx : x < 2 ^ n) : ∀ m, ∃ w, w < m + 1 ∧ ltw n x m = TWw n x w
  | 0 => ⟨0, by decide, (TWw_0 hx).symm⟩
  | m + 1 => by
    obtain ⟨w, h1, h2⟩ := ltw_ex hx m
    show ∃ w, w < m + 1 + 1 ∧ min (ltw n x m) (TWw n x m) = TWw n x w
    rcases Nat.lt_or_ge (TWw n x m) (ltw n x m) with q | q
    · exact ⟨m, by omega, by omega⟩
    · exact ⟨w, by omega, by omega⟩
theorem TI_least {n x fm : Nat} {fd : Nat → Nat} {ls : Nat} (hx : x < 2 ^ n) (h : TI n x fm fd ls) (hc : ∀ i, i < fm → ∀ w, w < 3 → ∃ j, j < fm ∧ fd j = trn n (fd i) w) : ls = ltw n x 8 := by
  have a1 : ls ≤ ltw n x 8 := by
    obtain ⟨w, -, e⟩ := ltw_ex hx 8
    obtain ⟨j, hj, e2⟩ := TI_all hx h hc w
    have := h.2.2.2.2.1 j hj
    omega
  have a2 : ltw n x 8 ≤ ls := by
    obtain ⟨i, hi, e⟩ := h.2.2.2.2.2
    obtain ⟨w, hw, e2⟩ := h.2.2.1 i hi
    have := ltw_le n x 8 w hw
    omega
  omega
theorem cw_s (n x w : Nat) : cntw n x (w + 1) = cntw n x w + (if nwT n x w = true then 1 else 0) := rfl
theorem cw_mono (n x : Nat) {a : Nat} : ∀ {b : Nat}, a ≤ b → cntw n x a ≤ cntw n x b
  | 0, h => by rw [Nat.le_zero.mp h]; exact Nat.le_refl _
  | b + 1, h => by
    rcases Nat.lt_or_ge a (b + 1) with q | q
    · have := cw_mono n x (a := a) (b := b) (by omega)
      rw [cw_s]; omega
    · rw [show a = b + 1 by omega]; exact Nat.le_refl _
theorem cw_lt (n x : Nat) {a b : Nat} (h : a < b) (ha : nwT n x a = true) : cntw n x a < cntw n x b := by
  have h1 := cw_mono n x (show a + 1 ≤ b from h)
  rw [cw_s, if_pos ha] at h1
  omega
theorem cw_kth (n x k : Nat) : ∀ m, k < cntw n x m → ∃ w, w < m ∧ nwT n x w = true ∧ cntw n x w = k
  | 0, h => absurd h (Nat.not_lt_zero k)
  | m + 1, h => by
    rcases Nat.lt_or_ge k (cntw n x m) with q | q
    · obtain ⟨w, h1, h2⟩ := cw_kth n x k m q
      exact ⟨w, by omega, h2⟩
    · rw [cw_s] at h
      by_cases c : nwT n x m = true
      · rw [if_pos c] at h
        exact ⟨m, by omega, c, by omega⟩
      · rw [if_neg c] at h; omega
theorem nw_first (n x : Nat) : ∀ w, ∃ w2, w2 ≤ w ∧ TWw n x w2 = TWw n x w ∧ nwT n x w2 = true := by
  intro w
  induction w using Nat.strongRecOn with
  | ind w ih =>
    by_cases c : nwT n x w = true
    · exact ⟨w, Nat.le_refl w, rfl, c⟩
    · have : ∃ j, j < w ∧ TWw n x j = TWw n x w := Classical.byContradiction (fun z => c (nwT_iff.mpr (fun j hj e => z ⟨j, hj, e⟩)))
      obtain ⟨j, hj, e⟩ := this
      obtain ⟨w2, h1, h2, h3⟩ := ih j hj
      exact ⟨w2, by omega, h2.trans e, h3⟩
theorem nw_one {n x a b : Nat} (ha : nwT n x a = true) (hb : nwT n x b = true) (e : TWw n x a = TWw n x b) : a = b := by
  rcases Nat.lt_trichotomy a b with h | h | h
  · exact absurd e (nwT_iff.mp hb a h)
  · exact h
  · exact absurd e.symm (nwT_iff.mp ha b h)
theorem TI_count {n x fm : Nat} {fd : Nat → Nat} {ls : Nat} (hx : x < 2 ^ n) (h : TI n x fm fd ls) (hc : ∀ i, i < fm → ∀ w, w < 3 → ∃ j, j < fm ∧ fd j = trn n (fd i) w) : fm = cntw n x 8 := by
  have a1 : fm ≤ cntw n x 8 := by
    have hf : ∀ i, i < fm → ∃ w, w < 8 ∧ nwT n x w = true ∧ fd i = TWw n x w := fun i hi => by
      obtain ⟨w, hw, e⟩ := h.2.2.1 i hi
      obtain ⟨w2, h1, h2, h3⟩ := nw_first n x w
      exact ⟨w2, by omega, h3, by rw [e, h2]⟩
    have hg : ∃ g : Nat → Nat, ∀ i, i < fm → g i < 8 ∧ nwT n x (g i) = true ∧ fd i = TWw n x (g i) := ⟨fun i => if q : i < fm then (hf i q).choose else 0, fun i q => by
      simp only [dif_pos q]
      exact (hf i q).choose_spec⟩
    obtain ⟨g, hg⟩ := hg
    refine fb_holes (cntw n x 8) fm (fun i => cntw n x (g i)) (fun i hi => cw_lt n x (hg i hi).1 (hg i hi).2.1) (fun i j hij hj e => ?_)
    have e2 : g i = g j := by
      rcases Nat.lt_trichotomy (g i) (g j) with q | q | q
      · have := cw_lt n x q (hg i (by omega)).2.1; omega
      · exact q
      · have := cw_lt n x q (hg j hj).2.1; omega
    exact h.2.2.2.1 i j hij hj (by rw [(hg i (by omega)).2.2, (hg j hj).2.2, e2])
  have a2 : cntw n x 8 ≤ fm := by
    have hf : ∀ k, k < cntw n x 8 → ∃ j, j < fm ∧ ∃ w, nwT n x w = true ∧ cntw n x w = k ∧ fd j = TWw n x w := fun k hk => by
      obtain ⟨w, h1, h2, h3⟩ := cw_kth n x k 8 hk
      obtain ⟨j, hj, e⟩ := TI_all hx h hc w
      exact ⟨j, hj, w, h2, h3, e⟩
    have hg : ∃ g : Nat → Nat, ∀ k, k < cntw n x 8 → g k < fm ∧ ∃ w, nwT n x w = true ∧ cntw n x w = k ∧ fd (g k) = TWw n x w := ⟨fun k => if q : k < cntw n x 8 then (hf k q).choose else 0, fun k q => by
      simp only [dif_pos q]
      exact (hf k q).choose_spec⟩
    obtain ⟨g, hg⟩ := hg
    refine fb_holes fm (cntw n x 8) g (fun k hk => (hg k hk).1) (fun i j hij hj e => ?_)
    obtain ⟨w1, b1, b2, b3⟩ := (hg i (by omega)).2
    obtain ⟨w2, d1, d2, d3⟩ := (hg j hj).2
    have e2 : w1 = w2 := nw_one b1 d1 (by rw [← b3, ← d3, e])
    subst e2
    omega
  omega
def fnd (fd : Nat → Nat) (v : Nat) : Nat → Bool
  | 0 => false
  | j + 1 => fnd fd v j || decide (fd j = v)
theorem fnd_iff {fd : Nat → Nat} {v : Nat} : ∀ {j : Nat}, fnd fd v j = true ↔ ∃ i, i < j ∧ fd i = v
  | 0 => by simp [fnd]
  | j + 1 => by
    show (fnd fd v j || decide (fd j = v)) = true ↔ _
    rw [Bool.or_eq_true, fnd_iff, decide_eq_true_eq]
    constructor
    · rintro (⟨i, h1, h2⟩ | h)
      · exact ⟨i, by omega, h2⟩
      · exact ⟨j, by omega, h⟩
    · rintro ⟨i, h1, h2⟩
      rcases Nat.lt_succ_iff_lt_or_eq.mp h1 with q | q
      · exact Or.inl ⟨i, q, h2⟩
      · subst q; exact Or.inr h2
