/-! what the rows keep -/
abbrev RVz (z : RT) : Prop := RV z.1 z.2.1 z.2.2
theorem rv_add2 {R : Nat} {F G : Nat → Nat} {n v w : Nat} (h : RV R F G) (hn : 1 ≤ n) (hv : v < 2 ^ n) (hw : w < 2 ^ n) : RVz (sp_add2 R F G n v w).2 := by
  by_cases q : n ≤ 32 ∧ R + 2 ≤ 24
  · rw [sp_add2_y q]
    refine ⟨by show R + 1 + 1 ≤ 24; omega, fun i hi => ?_⟩
    have hi : i < R + 1 + 1 := hi
    show 1 ≤ va_up (va_up F R n) (R + 1) n i ∧ va_up (va_up F R n) (R + 1) n i ≤ 32 ∧ va_up (va_up G R v) (R + 1) w i < 2 ^ va_up (va_up F R n) (R + 1) n i
    by_cases e1 : i = R + 1
    · subst e1
      simp only [va_up, if_pos]
      exact ⟨hn, q.1, hw⟩
    · by_cases e2 : i = R
      · subst e2
        simp only [va_up, if_pos, if_neg e1]
        exact ⟨hn, q.1, hv⟩
      · simp only [va_up, if_neg e1, if_neg e2]
        exact h.2 i (by omega)
  · rw [sp_add2_n q]
    exact h
theorem rv_row {R : Nat} {F G : Nat → Nat} (h : RV R F G) (n v : Int) : RVz (sp_row R F G n v).2 := by
  unfold sp_row
  split
  · exact RV_add h (by omega) (by omega)
  · exact h
theorem rv_drop {R : Nat} {F G : Nat → Nat} (h : RV R F G) : RVz (sp_drop R F G).2 := by
  unfold sp_drop
  split
  · exact h
  · refine ⟨by have := h.1; show R - 1 ≤ 24; omega, fun i hi => h.2 i (by have hi : i < R - 1 := hi; omega)⟩
theorem rv_turn {R : Nat} {F G : Nat → Nat} (h : RV R F G) (i w : Int) : RVz (sp_turn R F G i w).2 := by
  unfold sp_turn
  split
  · rename_i z
    exact RV_add h (RV_at h z.1).1 (trn_lt _ _ _)
  · exact h
theorem rv_put {R : Nat} {F G : Nat → Nat} (h : RV R F G) (i j : Int) : RVz (sp_put R F G i j).2 := by
  unfold sp_put
  split
  · rename_i z
    have z1 := RV_at h z.1
    have z2 := RV_at h z.2
    exact RV_add h (by omega) (jn_lt z1.2.2 z2.2.2)
  · exact h
theorem rv_weave {R : Nat} {F G : Nat → Nat} (h : RV R F G) (i j : Int) : RVz (sp_weave R F G i j).2 := by
  unfold sp_weave
  split
  · rename_i z
    have z1 := RV_at h z.1
    exact RV_add h (by omega) (wv_lt _ _ _)
  · exact h
theorem rv_times {R : Nat} {F G : Nat → Nat} (h : RV R F G) (i j : Int) : RVz (sp_times R F G i j).2 := by
  unfold sp_times
  split
  · rename_i z
    have z1 := RV_at h z.1
    have z2 := RV_at h z.2
    exact RV_add h (Nat.mul_pos z1.1 z2.1) (ob_lt _ _)
  · exact h
theorem rv_doubled {R : Nat} {F G : Nat → Nat} (h : RV R F G) (i j : Int) : RVz (sp_doubled R F G i j).2 := by
  unfold sp_doubled
  split
  · rename_i z
    have z1 := RV_at h z.1
    have z2 := RV_at h z.2.1
    have e : F i.toNat + F i.toNat = 2 * F i.toNat := by omega
    have z3 : G j.toNat < 2 ^ F i.toNat := by rw [z.2.2]; exact z2.2.2
    refine rv_add2 h (by omega) (by rw [← e]; exact jn_lt z1.2.2 z3) (by rw [← e]; exact jn_lt z1.2.2 (Nat.xor_lt_two_pow z3 (by have := Nat.two_pow_pos (F i.toNat); omega)))
  · exact h
theorem rv_told {R : Nat} {F G : Nat → Nat} (h : RV R F G) (n : Int) : RVz (sp_told R F G n).2 := by
  unfold sp_told
  split
  · rename_i z
    split
    · exact h
    · rename_i z2
      have := tl_lt n.toNat (by omega) (by omega) z2
      exact rv_add2 h (by omega) this.1 this.2
  · exact h
theorem rv_draw {R : Nat} {F G : Nat → Nat} (h : RV R F G) (La : Nat → Int) (Sz : Nat → Nat) (Ce : Nat → Int) (k l f n : Int) : RVz (sp_draw R F G La Sz Ce k l f n).2 := by
  unfold sp_draw
  split
  · rename_i z
    split
    · exact h
    · split
      · exact h
      · split
        · exact RV_add h (by omega) (ob_lt _ _)
        · exact h
  · exact h
theorem sh_sheet {La : Nat → Int} {Sz : Nat → Nat} {Ce : Nat → Int} (h : shOK La Sz Ce) (k l n : Int) : shOK (sp_sheet La Sz Ce k l n).2.1 (sp_sheet La Sz Ce k l n).2.2.1 (sp_sheet La Sz Ce k l n).2.2.2 := by
  unfold sp_sheet
  split
  · rename_i z
    split
    · exact h
    · refine ⟨fun i hi => ?_, fun j => ?_⟩
      · show (va_up La k.toNat l i = -4 ∨ va_up La k.toNat l i = 0 ∨ va_up La k.toNat l i = 1 ∨ va_up La k.toNat l i = 2) ∧ va_up Sz k.toNat n.toNat i ≤ 64
        by_cases e : i = k.toNat
        · simp only [va_up, if_pos e]
          omega
        · simp only [va_up, if_neg e]
          exact h.1 i hi
      · show -2147483648 ≤ fil Ce k.toNat 64 j ∧ fil Ce k.toNat 64 j < 2147483648
        unfold fil
        split
        · decide
        · exact h.2 j
  · exact h
theorem sh_lay {La : Nat → Int} {Sz : Nat → Nat} {Ce : Nat → Int} (h : shOK La Sz Ce) (k i v : Int) (gv : -2147483648 ≤ v ∧ v < 2147483648) : shOK La Sz (sp_lay La Sz Ce k i v).2 := by
  unfold sp_lay
  split
  · split
    · exact h
    · split
      · refine ⟨h.1, fun j => ?_⟩
        show -2147483648 ≤ va_up Ce _ _ j ∧ va_up Ce _ _ j < 2147483648
        unfold va_up
        split
        · exact cut_rng gv
        · exact h.2 j
      · exact h
  · exact h
