/-! the law's segments: taken out and laid back -/
theorem pm1 (X : va_W) {P1 S S' : va_W} (P2 P3 P4 : va_W) (h : P1.Perm (S ++ S')) : (X ++ (P1 ++ (P2 ++ (P3 ++ P4)))).Perm ((X ++ S) ++ (S' ++ (P2 ++ (P3 ++ P4)))) := pm_mid X [] _ h
theorem pm2 (X : va_W) {P2 S S' : va_W} (P1 P3 P4 : va_W) (h : P2.Perm (S ++ S')) : (X ++ (P1 ++ (P2 ++ (P3 ++ P4)))).Perm ((X ++ S) ++ (P1 ++ (S' ++ (P3 ++ P4)))) := pm_mid X P1 _ h
theorem pm3 (X : va_W) {P3 S S' : va_W} (P1 P2 P4 : va_W) (h : P3.Perm (S ++ S')) : (X ++ (P1 ++ (P2 ++ (P3 ++ P4)))).Perm ((X ++ S) ++ (P1 ++ (P2 ++ (S' ++ P4)))) := by
  have z := pm_mid X (P1 ++ P2) P4 h
  simp only [List.append_assoc] at z ⊢
  exact z
theorem pm4 (X : va_W) {P4 S S' : va_W} (P1 P2 P3 : va_W) (h : P4.Perm (S ++ S')) : (X ++ (P1 ++ (P2 ++ (P3 ++ P4)))).Perm ((X ++ S) ++ (P1 ++ (P2 ++ (P3 ++ S')))) := by
  have z := pm_mid X (P1 ++ (P2 ++ P3)) [] h
  simp only [List.append_assoc, List.append_nil] at z ⊢
  exact z
theorem up_same {α : Type} (f : Nat → α) (k : Nat) (v : α) : va_up f k v k = v := if_pos rfl
theorem up_off {α : Type} (f : Nat → α) {k i : Nat} (v : α) (h : i ≠ k) : va_up f k v i = f i := if_neg h
theorem lay_eq {La : Nat → Int} {Sz : Nat → Nat} {Ce : Nat → Int} {k i v : Int} {r : Int32} {u : Nat → Int} (hk : isK k) (hl : ¬ La k.toNat = -4) (hn : Sz k.toNat ≤ 64) (h : (r = zI 1 ∧ (0 ≤ i ∧ i < ((Sz k.toNat : Nat) : Int)) ∧ u = va_up (shq Ce k.toNat) i.toNat (cutI (La k.toNat) v)) ∨ (r = zI (-12) ∧ ¬ (0 ≤ i ∧ i < ((Sz k.toNat : Nat) : Int)) ∧ u = shq Ce k.toNat)) : r = zI (sp_lay La Sz Ce k i v).1 ∧ u = shq (sp_lay La Sz Ce k i v).2 k.toNat := by
  rcases h with ⟨h1, h2, h3⟩ | ⟨h1, h2, h3⟩
  · rw [sp_lay, if_pos hk, if_neg hl, if_pos h2]
    exact ⟨h1, by rw [h3, shq_up (by omega)]⟩
  · rw [sp_lay, if_pos hk, if_neg hl, if_neg h2]
    exact ⟨h1, h3⟩
theorem lay_off {La : Nat → Int} {Sz : Nat → Nat} {Ce : Nat → Int} {k i v : Int} (hn : Sz k.toNat ≤ 64) {k' : Nat} (h : k' ≠ k.toNat) : shq (sp_lay La Sz Ce k i v).2 k' = shq Ce k' := by
  unfold sp_lay
  split
  · split
    · rfl
    · split
      · exact shq_off (by omega) h _
      · rfl
  · rfl
theorem draw_eq {R : Nat} {F G : Nat → Nat} {La : Nat → Int} {Sz : Nat → Nat} {Ce : Nat → Int} {k l f n : Int} (hg : isK k ∧ isL l ∧ 1 ≤ n ∧ n ≤ 32) (hl : ¬ La k.toNat = -4) (hn : Sz k.toNat ≤ 64) : (if ¬ La k.toNat = l then ((-13 : Int), ((R, F, G) : RT)) else if dr (shq Ce k.toNat) (Sz k.toNat) f n.toNat 0 = 0 then sp_add R F G n.toNat (ob (drB (shq Ce k.toNat) f) n.toNat) else (dr (shq Ce k.toNat) (Sz k.toNat) f n.toNat 0, R, F, G)) = sp_draw R F G La Sz Ce k l f n := by
  have h := dr_shq (Ce := Ce) (k := k.toNat) hn f n.toNat
  rw [sp_draw, if_pos hg, if_neg hl, ← h.1]
  by_cases e : dr (shq Ce k.toNat) (Sz k.toNat) f n.toNat 0 = 0
  · rw [if_pos e, if_pos e, h.2 e]
  · rw [if_neg e, if_neg e]
theorem shC_up {sa : Nat → Option Nat} {La : Nat → Int} (h : shC sa La) (k : Nat) (q : Nat) {l : Int} (hl : isL l) : shC (va_up sa k (some q)) (va_up La k l) := by
  intro i hi
  by_cases e : i = k
  · subst e
    rw [up_same, up_same]
    exact ⟨fun z => (by cases z), fun z => (by omega)⟩
  · rw [up_off _ _ e, up_off _ _ e]
    exact h i hi
theorem plC_up {ad : Nat → Nat} {pl : Nat → Option Nat} {gp : Nat → PRt} (h : plC ad pl gp) (n q : Nat) (g : PRt) (hg : lsOK ad g.2.2.2.2.1 g.2.2.2.2.2 g.2.2.2.1 (aK n)) : plC ad (va_up pl n (some q)) (va_up gp n g) := by
  intro i h1 h2 h3
  by_cases e : i = n
  · subst e
    rw [up_same]
    exact hg
  · rw [up_off _ _ e] at h3 ⊢
    exact h i h1 h2 h3
theorem segB_off {pa : Nat → Option Nat} {w : Int} {n q i : Nat} (h : i ≠ n) : segB pa w i = segB (va_up pa n (some q)) w i := by
  unfold segB
  rw [up_off _ _ h]
theorem segP_off {t : Nat → ClassId} {pl : Nat → Option Nat} {gp : Nat → PRt} {n q i : Nat} {g : PRt} (h : i ≠ n) : segP t pl gp i = segP t (va_up pl n (some q)) (va_up gp n g) i := by
  unfold segP
  rw [up_off _ _ h, up_off _ _ h]
theorem segS_off {t : Nat → ClassId} {sa : Nat → Option Nat} {ra : Nat → Nat} {La : Nat → Int} {Sz : Nat → Nat} {Ce : Nat → Int} {k q r0 n i : Nat} {l : Int} (h : i ≠ k) : segS t sa ra La Sz Ce i = segS t (va_up sa k (some q)) (va_up ra k r0) (va_up La k l) (va_up Sz k n) (fil Ce k 64) i := by
  unfold segS
  rw [up_off _ _ h, up_off _ _ h, up_off _ _ h, up_off _ _ h, shq_filo h]
theorem segS_lay {t : Nat → ClassId} {sa : Nat → Option Nat} {ra : Nat → Nat} {La : Nat → Int} {Sz : Nat → Nat} {Ce : Nat → Int} {k i v : Int} (hn : Sz k.toNat ≤ 64) {i' : Nat} (h : i' ≠ k.toNat) : segS t sa ra La Sz Ce i' = segS t sa ra La Sz (sp_lay La Sz Ce k i v).2 i' := by
  unfold segS
  rw [lay_off hn h]
