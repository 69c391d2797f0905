/-! the law's world -/
abbrev PRt : Type := Nat × Nat × Int × (Nat → Option Nat) × List Nat × (Nat → Int32)
def shq (Ce : Nat → Int) (k : Nat) : Nat → Int := fun i => if i < 64 then Ce (64 * k + i) else 0
def segS (t : Nat → ClassId) (sa : Nat → Option Nat) (ra : Nat → Nat) (La : Nat → Int) (Sz : Nat → Nat) (Ce : Nat → Int) (k : Nat) : va_W := match sa k with
  | none => []
  | some q => [(q, .inr (4, [.int (zI (La k)), .ref (ra k)])), aI t (ra k) (Sz k) (shq Ce k)]
def segB (pa : Nat → Option Nat) (w : Int) (n : Nat) : va_W := match pa n with
  | none => []
  | some q => [(q, .inr (2, [.int (zI ((bv n w).1)), .int (zI (((bv n w).2.1 : Nat) : Int)), .int (zI (((bv n w).2.2.1 : Nat) : Int)), .int (zI (((bv n w).2.2.2 : Nat) : Int))]))]
def segP (t : Nat → ClassId) (pl : Nat → Option Nat) (gp : Nat → PRt) (n : Nat) : va_W := match pl n with
  | none => []
  | some q => [(q, .inr (3, [.int (zI (((aA n).length : Nat) : Int)), .ref (gp n).1])), ((gp n).1, .inr (1, [.int (zI ((gp n).2.2.1)), .ref (gp n).2.1, .int (zI (((aK n).length : Nat) : Int))]))] ++ TT t (gp n).2.1 ((aK n).length) (gp n).2.2.2.1 (gp n).2.2.2.2.1 (gp n).2.2.2.2.2
theorem segS_n {t : Nat → ClassId} {sa : Nat → Option Nat} {ra : Nat → Nat} {La : Nat → Int} {Sz : Nat → Nat} {Ce : Nat → Int} {k : Nat} (h : sa k = none) : segS t sa ra La Sz Ce k = [] := by unfold segS; rw [h]
theorem segS_s {t : Nat → ClassId} {sa : Nat → Option Nat} {ra : Nat → Nat} {La : Nat → Int} {Sz : Nat → Nat} {Ce : Nat → Int} {k q : Nat} (h : sa k = some q) : segS t sa ra La Sz Ce k = [(q, .inr (4, [.int (zI (La k)), .ref (ra k)])), aI t (ra k) (Sz k) (shq Ce k)] := by unfold segS; rw [h]
theorem segB_n {pa : Nat → Option Nat} {w : Int} {n : Nat} (h : pa n = none) : segB pa w n = [] := by unfold segB; rw [h]
theorem segB_s {pa : Nat → Option Nat} {w : Int} {n q : Nat} (h : pa n = some q) : segB pa w n = [(q, .inr (2, [.int (zI ((bv n w).1)), .int (zI (((bv n w).2.1 : Nat) : Int)), .int (zI (((bv n w).2.2.1 : Nat) : Int)), .int (zI (((bv n w).2.2.2 : Nat) : Int))]))] := by unfold segB; rw [h]
theorem segP_n {t : Nat → ClassId} {pl : Nat → Option Nat} {gp : Nat → PRt} {n : Nat} (h : pl n = none) : segP t pl gp n = [] := by unfold segP; rw [h]
theorem segP_s {t : Nat → ClassId} {pl : Nat → Option Nat} {gp : Nat → PRt} {n q : Nat} (h : pl n = some q) : segP t pl gp n = [(q, .inr (3, [.int (zI (((aA n).length : Nat) : Int)), .ref (gp n).1])), ((gp n).1, .inr (1, [.int (zI ((gp n).2.2.1)), .ref (gp n).2.1, .int (zI (((aK n).length : Nat) : Int))]))] ++ TT t (gp n).2.1 ((aK n).length) (gp n).2.2.2.1 (gp n).2.2.2.2.1 (gp n).2.2.2.2.2 := by unfold segP; rw [h]
def sgs (n : Nat) (f : Nat → va_W) : va_W := (List.range n).flatMap f
def srs (n : Nat) (f : Nat → va_W) (k : Nat) : va_W := ((List.range n).erase k).flatMap f
theorem sgs_perm {n k : Nat} (f : Nat → va_W) (h : k < n) : (sgs n f).Perm (f k ++ srs n f k) := by
  have e : (List.range n).Perm (k :: (List.range n).erase k) := List.perm_cons_erase (List.mem_range.mpr h)
  exact (e.flatMap_right f)
theorem srs_cong {n k : Nat} {f g : Nat → va_W} (h : ∀ i, i < n → i ≠ k → f i = g i) : srs n f k = srs n g k := by
  unfold srs
  rw [List.flatMap_def, List.flatMap_def]
  congr 1
  refine List.map_congr_left (fun i hi => ?_)
  have := (List.Nodup.mem_erase_iff List.nodup_range).mp hi
  exact h i (List.mem_range.mp this.2) this.1
theorem sgs_nil {n : Nat} {f : Nat → va_W} (h : ∀ i, f i = []) : sgs n f = [] := by
  unfold sgs
  rw [List.flatMap_eq_nil_iff]
  exact fun i _ => h i
theorem pm_mid (X B Z : va_W) {A S S' : va_W} (h : A.Perm (S ++ S')) : (X ++ (B ++ (A ++ Z))).Perm ((X ++ S) ++ (B ++ (S' ++ Z))) := by
  rw [List.append_assoc X S]
  refine List.Perm.append_left X ((List.Perm.append_left B (h.append_right Z)).trans ?_)
  rw [List.append_assoc S S' Z]
  exact List.perm_append_comm_assoc B S (S' ++ Z)
theorem fr_dropP {D : va_G} {cl : List vw_C} {X S Y : va_W} {H : Heap} (h : va_P D cl ((X ++ S) ++ Y) H) : va_P D cl (X ++ Y) H := va_P_iff.mpr (fun q hq => va_P_iff.mp h q (by
  rcases List.mem_append.mp hq with z | z
  · exact List.mem_append_left _ (List.mem_append_left _ z)
  · exact List.mem_append_right _ z))
theorem fr_dropD {A : Nat → Prop} {X S Y : va_W} (h : va_D A ((X ++ S) ++ Y)) : va_D A (X ++ Y) := by
  obtain ⟨h1, h2⟩ := va_D_iff.mp h
  have hs : (X ++ Y).Sublist ((X ++ S) ++ Y) := List.Sublist.append_right (List.sublist_append_left X S) Y
  exact va_D_iff.mpr ⟨(hs.map _).nodup h1, fun q hq => h2 q (hs.subset hq)⟩
def shC (sa : Nat → Option Nat) (La : Nat → Int) : Prop := ∀ k, k < 4 → (sa k = none ↔ La k = -4)
def plC (ad : Nat → Nat) (pl : Nat → Option Nat) (gp : Nat → PRt) : Prop := ∀ n, 1 ≤ n → n ≤ 8 → pl n ≠ none → lsOK ad (gp n).2.2.2.2.1 (gp n).2.2.2.2.2 (gp n).2.2.2.1 (aK n)
theorem dr_cg {C C' : Nat → Int} {n : Nat} {f : Int} (h : ∀ i, i < n → C i = C' i) : ∀ m i, dr C n f m i = dr C' n f m i ∧ (dr C n f m i = 0 → ∀ j, i ≤ j → j < i + m → drB C f j = drB C' f j)
  | 0, i => ⟨rfl, fun _ j h1 h2 => by omega⟩
  | m + 1, i => by
    have ih := dr_cg (f := f) h m (i + 1)
    show (if ¬ (0 ≤ f + (i : Int) ∧ f + (i : Int) < (n : Int)) then (-12 : Int) else if ¬ C (f + (i : Int)).toNat = 1 ∧ ¬ C (f + (i : Int)).toNat = -1 then -20 - (i : Int) else dr C n f m (i + 1)) = (if ¬ (0 ≤ f + (i : Int) ∧ f + (i : Int) < (n : Int)) then (-12 : Int) else if ¬ C' (f + (i : Int)).toNat = 1 ∧ ¬ C' (f + (i : Int)).toNat = -1 then -20 - (i : Int) else dr C' n f m (i + 1)) ∧ ((if ¬ (0 ≤ f + (i : Int) ∧ f + (i : Int) < (n : Int)) then (-12 : Int) else if ¬ C (f + (i : Int)).toNat = 1 ∧ ¬ C (f + (i : Int)).toNat = -1 then -20 - (i : Int) else dr C n f m (i + 1)) = 0 → _)
    by_cases h1 : 0 ≤ f + (i : Int) ∧ f + (i : Int) < (n : Int)
    · have e := h (f + (i : Int)).toNat (by omega)
      rw [if_neg (not_not_intro h1), if_neg (not_not_intro h1), ← e]
      by_cases h2 : ¬ C (f + (i : Int)).toNat = 1 ∧ ¬ C (f + (i : Int)).toNat = -1
      · rw [if_pos h2, if_pos h2]
        exact ⟨rfl, fun z => by omega⟩
      · rw [if_neg h2, if_neg h2]
        refine ⟨ih.1, fun z j h3 h4 => ?_⟩
        by_cases h5 : j = i
        · subst h5
          show decide _ = decide _
          rw [e]
        · exact ih.2 z j (by omega) (by omega)
    · rw [if_pos h1, if_pos h1]
      exact ⟨rfl, fun z => by omega⟩
theorem dr_shq {Ce : Nat → Int} {k n : Nat} (hn : n ≤ 64) (f : Int) (m : Nat) : dr (shq Ce k) n f m 0 = dr (sht Ce k) n f m 0 ∧ (dr (shq Ce k) n f m 0 = 0 → ob (drB (shq Ce k) f) m = ob (drB (sht Ce k) f) m) := by
  have h := dr_cg (C := shq Ce k) (C' := sht Ce k) (n := n) (f := f) (fun i hi => if_pos (by omega)) m 0
  exact ⟨h.1, fun z => ob_cong (fun i hi => h.2 z i (Nat.zero_le i) (by omega))⟩
theorem shq_rng {Ce : Nat → Int} (h : ∀ j, -2147483648 ≤ Ce j ∧ Ce j < 2147483648) (k j : Nat) : -2147483648 ≤ shq Ce k j ∧ shq Ce k j < 2147483648 := by
  unfold shq
  split
  · exact h _
  · omega
theorem shq_up {Ce : Nat → Int} {k i : Nat} (hi : i < 64) (v : Int) : shq (va_up Ce (64 * k + i) v) k = va_up (shq Ce k) i v := by
  funext j
  simp only [shq, va_up]
  by_cases e : j = i
  · subst e; rw [if_pos hi, if_pos rfl, if_pos rfl]
  · rw [if_neg e]
    split
    · rw [if_neg (by omega)]
    · rfl
theorem shq_off {Ce : Nat → Int} {k i k' : Nat} (hi : i < 64) (hk : k' ≠ k) (v : Int) : shq (va_up Ce (64 * k + i) v) k' = shq Ce k' := by
  funext j
  simp only [shq, va_up]
  split
  · rw [if_neg (by omega)]
  · rfl
theorem shq_fil {Ce : Nat → Int} {k : Nat} : shq (fil Ce k 64) k = fun _ => 0 := by
  funext j
  simp only [shq, fil]
  split
  · rw [if_pos (by omega)]
  · rfl
theorem shq_filo {Ce : Nat → Int} {k k' : Nat} (hk : k' ≠ k) : shq (fil Ce k 64) k' = shq Ce k' := by
  funext j
  simp only [shq, fil]
  split
  · rw [if_neg (by omega)]
  · rfl
section QS
variable {p : Program} {l : Launch} {e : Env} {R : Room} {s : State} {m : MethodId} {args : Array Value} {below : List Frame} {meth : Method} {c : Code} {H : Heap} {locs : List Loc} {cells slots : Nat} {Q : State → Prop}
variable {cc : ByteArray} {pc : Nat} {ls : Array Slot} {rest : List Value} {A : Nat → Prop}
theorem q_sc (hexec : p.tables.exec = Jvm.exec) (hb : c.code = cc) {sc L : Nat} {xs : Nat → Int32} (hX : va_X sc L xs s s.heap) (hbl : sc < s.heap.size) (hbA : ¬ A sc) (hS : va_S A s.heap H locs) {v : Int} (i : Nat) (he : v = (i : Int)) (hi : i < L) (hn : L < 2147483648) (hdg : decode cc pc = .ok (.iaload, 1))
    (k : W p l e R s m args below meth c H locs cells slots Q (F0 m (pc + 1) ls (.int (zI ((xs i).toInt)) :: rest))) : W p l e R s m args below meth c H locs cells slots Q (F0 m pc ls (.int (zI v) :: .ref sc :: rest)) := by
  subst he
  refine va_sld hexec hb hX hbl hbA hS (zI_in (by omega) hn) hdg ?_
  rw [zI_cl (by omega), Int.toNat_natCast, zI_as (xs i)]
  exact k
theorem q_scl (hexec : p.tables.exec = Jvm.exec) (hb : c.code = cc) {sc L : Nat} {xs : Nat → Int32} (hX : va_X sc L xs s s.heap) (hbl : sc < s.heap.size) (hbA : ¬ A sc) (hS : va_S A s.heap H locs) (hdg : decode cc pc = .ok (.arraylength, 1))
    (k : W p l e R s m args below meth c H locs cells slots Q (F0 m (pc + 1) ls (.int (zI ((L : Nat) : Int)) :: rest))) : W p l e R s m args below meth c H locs cells slots Q (F0 m pc ls (.ref sc :: rest)) := va_slen hexec hb hX hbl hbA hS hdg k
end QS
theorem xs_rng (v : Int32) : -2147483648 ≤ v.toInt ∧ v.toInt < 2147483648 := ⟨Int32.le_toInt v, Int32.toInt_lt v⟩
theorem lw_rng (v : Int64) : -9223372036854775808 ≤ v.toInt ∧ v.toInt < 9223372036854775808 := ⟨Int64.le_toInt v, Int64.toInt_lt v⟩
/-- the two sides agree -/
def LI (t : Nat → ClassId) (ad : Nat → Nat) (AA : Nat → Prop) (D : va_G) (s : State) (x : Nat) (a : Nat → Nat) (y : Nat) (b : Nat → Nat) (H : Heap) (locs : List Loc) : Prop := ∃ (R : Nat) (F : Nat → Nat) (G : Nat → Nat) (sa : Nat → Option Nat) (ra : Nat → Nat) (La : Nat → Int) (Sz : Nat → Nat) (Ce : Nat → Int) (pl : Nat → Option Nat) (gp : Nat → PRt) (pa : Nat → Option Nat) (pb : Nat → Option Nat) (fm1 : Int) (kn : Int) (pm0 : Int) (lm : Int) (fd : Nat → Nat) (Pr : Nat → Int) (Lr : Nat → Int) (Sm : Nat → Int) (Fo : Nat → Int) (Be : Nat → Int), (va_P D vwCl ([oX x a (((R : Nat) : Int)), aI t (a 0) 24 (cN F), aJ t (a 1) 24 (G), aQ t 3 (a 2) 4 (sa), aQ t 4 (a 3) 9 (pl), aQ t 5 (a 4) 15 (pa), aQ t 5 (a 5) 15 (pb), oM y b (((R : Nat) : Int)) (fm1) (kn) (pm0) (lm), aI t (b 0) 24 (cN F), aJ t (b 1) 24 (G), aI t (b 2) 4 (La), aI t (b 3) 4 (cN Sz), aI t (b 4) 256 (Ce), aJ t (b 5) 16 (fd), aI t (b 6) 6000 (Pr), aI t (b 7) 600 (Lr), aI t (b 8) 2048 (Sm), aZ t (b 9) 30 (Fo), aI t (b 10) 120 (Be)] ++ (sgs 4 (segS t sa ra La Sz Ce) ++ (sgs 15 (segB pa 0) ++ (sgs 15 (segB pb 1) ++ sgs 9 (segP t pl gp))))) H ∧ va_D AA ([oX x a (((R : Nat) : Int)), aI t (a 0) 24 (cN F), aJ t (a 1) 24 (G), aQ t 3 (a 2) 4 (sa), aQ t 4 (a 3) 9 (pl), aQ t 5 (a 4) 15 (pa), aQ t 5 (a 5) 15 (pb), oM y b (((R : Nat) : Int)) (fm1) (kn) (pm0) (lm), aI t (b 0) 24 (cN F), aJ t (b 1) 24 (G), aI t (b 2) 4 (La), aI t (b 3) 4 (cN Sz), aI t (b 4) 256 (Ce), aJ t (b 5) 16 (fd), aI t (b 6) 6000 (Pr), aI t (b 7) 600 (Lr), aI t (b 8) 2048 (Sm), aZ t (b 9) 30 (Fo), aI t (b 10) 120 (Be)] ++ (sgs 4 (segS t sa ra La Sz Ce) ++ (sgs 15 (segB pa 0) ++ (sgs 15 (segB pb 1) ++ sgs 9 (segP t pl gp))))) ∧ va_S AA s.heap H locs) ∧ RV R F G ∧ shOK La Sz Ce ∧ shC sa La ∧ plC ad pl gp ∧ pK kn pm0 lm Pr Lr ∧ bOK Fo Be
