/-! the check: pairs -/
def hdL (P : Nat → Int) (l : List Nat) : Prop := ∀ (i c : Nat), l[i]? = some c → P i = (c : Int)
theorem hdL_nil (P : Nat → Int) : hdL P [] := fun i c h => by simp at h
theorem hdL_app {P : Nat → Int} {l : List Nat} {k : Nat} {c : Nat} (h : hdL P l) (hk : k = l.length) : hdL (va_up P k (c : Int)) (l ++ [c]) := by
  subst hk
  intro i d hi
  by_cases e : i = l.length
  · subst e
    rw [List.getElem?_concat_length] at hi
    cases hi
    exact if_pos rfl
  · have hlt : i < l.length := by
      have := (List.getElem?_eq_some_iff.mp hi).1
      rw [List.length_append] at this
      have h1 : [c].length = 1 := rfl
      omega
    rw [List.getElem?_append_left hlt] at hi
    rw [← h i d hi]
    exact if_neg e
def pI (n N a b jp jl : Nat) (Pr Lr : Nat → Int) : Prop := jp = (stL n N a b).length ∧ jl = ((stL n N a b).filter (lsC n)).length ∧ hdL Pr (stL n N a b) ∧ hdL Lr ((stL n N a b).filter (lsC n))
theorem lsC_ab {n a b : Nat} (hb : b < 1000) : lsC n (1000 * a + b) = isLs n a b := by
  unfold lsC
  rw [show (1000 * a + b) / 1000 = a by omega, show (1000 * a + b) % 1000 = b by omega]
theorem pI_n {n N a b jp jl : Nat} {Pr Lr : Nat → Int} (h : pI n N a b jp jl Pr Lr) (hc : ¬ cb n a b = true) : pI n N a (b + 1) jp jl Pr Lr := by
  unfold pI
  rw [stL_n n N a b hc]
  exact h
theorem pI_0 {n N a b jp jl : Nat} {Pr Lr : Nat → Int} (h : pI n N a b jp jl Pr Lr) (hc : cb n a b = true) (hb : b < 1000) (hl : ¬ isLs n a b = true) {v : Int} (hv : v = ((1000 * a + b : Nat) : Int)) : pI n N a (b + 1) (jp + 1) jl (va_up Pr jp v) Lr := by
  subst hv
  unfold pI
  rw [stL_y n N a b hc, List.filter_append, List.filter_cons_of_neg (by rw [lsC_ab hb]; exact hl), List.filter_nil, List.append_nil, List.length_append]
  exact ⟨by rw [h.1]; rfl, h.2.1, hdL_app h.2.2.1 h.1, h.2.2.2⟩
theorem pI_1 {n N a b jp jl : Nat} {Pr Lr : Nat → Int} (h : pI n N a b jp jl Pr Lr) (hc : cb n a b = true) (hb : b < 1000) (hl : isLs n a b = true) {v : Int} (hv : v = ((1000 * a + b : Nat) : Int)) : pI n N a (b + 1) (jp + 1) (jl + 1) (va_up Pr jp v) (va_up Lr jl v) := by
  subst hv
  unfold pI
  rw [stL_y n N a b hc, List.filter_append, List.filter_cons_of_pos (by rw [lsC_ab hb]; exact hl), List.filter_nil, List.length_append, List.length_append]
  exact ⟨by rw [h.1]; rfl, by rw [h.2.1]; rfl, hdL_app h.2.2.1 h.1, hdL_app h.2.2.2 h.2.1⟩
theorem pI_e {n N a jp jl : Nat} {Pr Lr : Nat → Int} (h : pI n N a N jp jl Pr Lr) : pI n N (a + 1) 0 jp jl Pr Lr := by
  unfold pI
  rw [← stL_e]
  exact h
theorem pI_bd {n a b jp jl : Nat} {Pr Lr : Nat → Int} (gn : 1 ≤ n ∧ n ≤ 8) (h : pI n (2 ^ n) a b jp jl Pr Lr) (ha : a < 2 ^ n) (hb : b ≤ 2 ^ n) : jp ≤ 192 ∧ jl ≤ 5 := by
  have z := stL_pre n (2 ^ n) ha hb
  have p := pairs_all gn
  have z1 := z.length_le
  have z2 := (z.filter (lsC n)).length_le
  rw [h.1, h.2.1]
  exact ⟨Nat.le_trans z1 p.2.2.2.1, Nat.le_trans z2 p.2.2.1⟩
theorem pI_by {n a b jp jl : Nat} {Pr Lr : Nat → Int} (gn : 1 ≤ n ∧ n ≤ 8) (h : pI n (2 ^ n) a b jp jl Pr Lr) (ha : a < 2 ^ n) (hb : b < 2 ^ n) (hc : cb n a b = true) : jp < 192 := by
  have z := (stL_pre n (2 ^ n) ha (show b + 1 ≤ 2 ^ n by omega)).length_le
  rw [stL_y n _ a b hc, List.length_append] at z
  have p := (pairs_all gn).2.2.2.1
  have e : [1000 * a + b].length = 1 := rfl
  rw [h.1]
  show _ < 192
  have p : (allL n (2 ^ n) (2 ^ n)).length ≤ 192 := p
  omega
def pOK (n : Nat) (pm0 lm : Int) (Pr Lr : Nat → Int) : Prop := pm0 = ((aA n).length : Int) ∧ lm = ((aK n).length : Int) ∧ hdL Pr (aA n) ∧ hdL Lr (aK n)
theorem pI_all {n jp jl : Nat} {Pr Lr : Nat → Int} (h : pI n (2 ^ n) (2 ^ n) 0 jp jl Pr Lr) : pOK n (jp : Int) (jl : Int) Pr Lr := by
  unfold pI at h
  rw [stL_all] at h
  exact ⟨by rw [h.1], by rw [h.2.1], h.2.2.1, h.2.2.2⟩
theorem pI_z (n N : Nat) (Pr Lr : Nat → Int) : pI n N 0 0 0 0 Pr Lr := ⟨rfl, rfl, hdL_nil Pr, hdL_nil Lr⟩
def hdd : List Nat → Nat
  | [] => 0
  | c :: _ => c
def atL (l : List Nat) (i : Nat) : Nat := (l[i]?).getD 0
def sp_pairs (n what : Int) : Int := if 1 ≤ n ∧ n ≤ 8 ∧ 0 ≤ what ∧ what ≤ 3 then (if what = 0 then ((aA n.toNat).length : Int) else if what = 1 then ((aK n.toNat).length : Int) else if (aA n.toNat).length = 0 then -4 else if what = 2 then ((hdd (aA n.toNat)) / 1000 : Nat) else ((hdd (aA n.toNat)) % 1000 : Nat)) else -1
def sp_pair (n i : Int) : Int := if 1 ≤ n ∧ n ≤ 8 ∧ 0 ≤ i then (if i < ((aK n.toNat).length : Int) then (atL (aK n.toNat) i.toNat : Int) else -4) else -1
theorem hdL_0 {P : Nat → Int} {l : List Nat} (h : hdL P l) (hl : ¬ l.length = 0) : P 0 = (hdd l : Int) := by
  cases l with
  | nil => exact absurd rfl hl
  | cons c l => exact h 0 c rfl
theorem hdL_at {P : Nat → Int} {l : List Nat} (h : hdL P l) {i : Nat} (hi : i < l.length) : P i = (atL l i : Int) := by
  have e : l[i]? = some l[i] := List.getElem?_eq_getElem hi
  unfold atL
  rw [h i _ e, e]
  rfl
theorem hdd_lt {n : Nat} (gn : 1 ≤ n ∧ n ≤ 8) : hdd (aA n) < 256000 := by
  have p := (pairs_all gn).2.2.2.2.2.2
  cases e : aA n with
  | nil => exact (by decide)
  | cons c l => exact p c (by rw [e]; exact List.mem_cons_self)
def suR (n : Nat) (Sm : Nat → Int) (a k : Nat) : Prop := (∀ a' k', a' < a → 1 ≤ k' → k' < n → Sm (8 * a' + k') = oS n a' k') ∧ ∀ k', 1 ≤ k' → k' < k → Sm (8 * a + k') = oS n a k'
theorem suR_s {n a k : Nat} {Sm : Nat → Int} (hn : n ≤ 8) (h : suR n Sm a k) (h1 : k < n) : suR n (va_up Sm (8 * a + k) (oS n a k)) a (k + 1) := by
  refine ⟨fun a' k' h2 h3 h4 => ?_, fun k' h2 h3 => ?_⟩
  · rw [← h.1 a' k' h2 h3 h4]
    exact if_neg (by omega)
  · by_cases e : k' = k
    · subst e; exact if_pos rfl
    · rw [← h.2 k' h2 (by omega)]
      exact if_neg (by omega)
theorem suR_e {n a : Nat} {Sm : Nat → Int} (h : suR n Sm a n) : suR n Sm (a + 1) 1 := by
  refine ⟨fun a' k' h2 h3 h4 => ?_, fun k' h2 h3 => by omega⟩
  by_cases e : a' = a
  · subst e; exact h.2 k' h3 h4
  · exact h.1 a' k' (by omega) h3 h4
theorem cb_1 {n a b : Nat} (h : ff (fun k => oS n a k + oS n b k) 1 (n - 1) = 0) : cb n a b = true := decide_eq_true h
theorem cb_0 {n a b : Nat} (h : ¬ ff (fun k => oS n a k + oS n b k) 1 (n - 1) = 0) : ¬ cb n a b = true := fun z => h (of_decide_eq_true z)
theorem pw8 {n : Nat} (h : 1 ≤ n ∧ n ≤ 8) : 2 ≤ 2 ^ n ∧ 2 ^ n ≤ 256 := by
  have z : ∀ n, n < 9 → 1 ≤ n → 2 ≤ 2 ^ n ∧ 2 ^ n ≤ 256 := by decide +kernel
  exact z n (by omega) h.1
-- the check: know
set_option maxHeartbeats 4000000 in
set_option maxRecDepth 100000 in
theorem c_X7_know (l : Launch) (D : va_G) (t : Nat → ClassId) (sz : Nat) (y : Nat) (b : Nat → Nat) (R : Nat) (fm1 kn pm0 lm : Int) (Pr Lr Sm : Nat → Int) (n : Nat) (gn : 1 ≤ n ∧ n ≤ 8) (gkn : kn = -4 ∨ (1 ≤ kn ∧ kn ≤ 8)) (gP : kn = (n : Int) → pOK n pm0 lm Pr Lr) : Met l yX7_know wsX7_know ({ frames := 3, cells := 0, slots := 0, locals := 81 }) (va_Pc [.ref y, .int (zI (n))] (fun U => U.heap.size = sz ∧ va_P D vwCl ([oM y b (((R : Nat) : Int)) (fm1) (kn) (pm0) (lm), aI t (b 6) 6000 (Pr), aI t (b 7) 600 (Lr), aI t (b 8) 2048 (Sm)]) U.heap ∧ va_K D vwCl (TY t) U ∧ va_D (fun _ => True) ([oM y b (((R : Nat) : Int)) (fm1) (kn) (pm0) (lm), aI t (b 6) 6000 (Pr), aI t (b 7) 600 (Lr), aI t (b 8) 2048 (Sm)]))) (va_Qv (fun (u : Int × Int × (Nat → Int) × (Nat → Int) × (Nat → Int)) => pOK n u.1 u.2.1 u.2.2.1 u.2.2.2.1) (fun (u : Int × Int × (Nat → Int) × (Nat → Int) × (Nat → Int)) t1 => va_P D vwCl ([oM y b (((R : Nat) : Int)) (fm1) (((n : Nat) : Int)) (u.1) (u.2.1), aI t (b 6) 6000 (u.2.2.1), aI t (b 7) 600 (u.2.2.2.1), aI t (b 8) 2048 (u.2.2.2.2)]) t1.heap ∧ va_K D vwCl (TY t) t1 ∧ va_D (va_A ([oM y b (((R : Nat) : Int)) (fm1) (kn) (pm0) (lm), aI t (b 6) 6000 (Pr), aI t (b 7) 600 (Lr), aI t (b 8) 2048 (Sm)]) sz) ([oM y b (((R : Nat) : Int)) (fm1) (((n : Nat) : Int)) (u.1) (u.2.1), aI t (b 6) 6000 (u.2.2.1), aI t (b 7) 600 (u.2.2.2.1), aI t (b 8) 2048 (u.2.2.2.2)])) (va_A ([oM y b (((R : Nat) : Int)) (fm1) (kn) (pm0) (lm), aI t (b 6) 6000 (Pr), aI t (b 7) 600 (Lr), aI t (b 8) 2048 (Sm)]) sz)) 0 0 (va_A ([oM y b (((R : Nat) : Int)) (fm1) (kn) (pm0) (lm), aI t (b 6) 6000 (Pr), aI t (b 7) 600 (Lr), aI t (b 8) 2048 (Sm)]) sz) := by
  refine Met.ofW (cc := cX7_know) (maxL := 7) (ret := none) (by decide) rfl ?_
  intro p e s m args below meth c s₁ B hml hv
  obtain ⟨rfl, hsz, hP, hK, hD0⟩ := hv
  have hx := B.exec
  have hb := B.bytes
  have hr := B.returns
  have hts := atoms_spec (ws := wsX7_know) B.pre
  have hown : s.vm.findClass RX7 = some m.cls := findClass_of_methodNamed B.named
  have hlocks := B.notSynchronized
  subst hsz
  have hD := hD0.self (sz := s.heap.size)
  generalize hAe : va_A ([oM y b (((R : Nat) : Int)) (fm1) (kn) (pm0) (lm), aI t (b 6) 6000 (Pr), aI t (b 7) 600 (Lr), aI t (b 8) 2048 (Sm)]) s.heap.size = AA at hD ⊢
  have hA : ∀ q : Nat, s.heap.size ≤ q → AA q := fun q h => by rw [← hAe]; exact Or.inr h
  have hS : va_S AA s.heap s.heap [] := va_S.rf
  have hP : va_P D vwCl ([oM y b (((R : Nat) : Int)) (fm1) (kn) (pm0) (lm), aI t (b 6) 6000 (Pr), aI t (b 7) 600 (Lr), aI t (b 8) 2048 (Sm)]) s.heap := hP
  have hl := lv_entry ([.ref y, .int (zI (n))]) (n := 7) (Nat.le_of_ble_eq_true rfl)
  rw [lg_entry_eq]
  generalize (lg_sl ([.ref y, .int (zI (n))]) ++ List.replicate (7 - (lg_sl ([.ref y, .int (zI (n))])).length) Slot.unset).toArray = ls at hl ⊢
  have hl : lv_has ls 7 [(0, .ref y), (1, .int (zI (n)))] := hl
  have iX7 : ∀ w ∈ u_ws RX7 TX7 16, w ∈ wsX7_know := by decide +kernel
  have b0 := pw8 gn
  refine lv_aload_n hx hb dX7_know_0 rfl (lv_at hl 0 rfl) ?_
  refine va_get (D := D) (ci := 6) (v := .int (zI (kn))) (C := RX7) (T := TX7) (N := 16) hx hb hts iX7 hown hK hP 0 rfl rfl 8 (by decide) (hts (.fieldLink RX7 29 "CancelRowsModel" "known" "I") (by decide +kernel)) (fun _ h9 => h9) rfl dX7_know_1 ?_
  refine lv_iload_n hx hb dX7_know_4 rfl (lv_at hl 1 rfl) ?_
  refine z_icmp_ne (tgt := 9) hx hb dX7_know_5 (by decide) (by omega) (by omega) (fun c5 => ?_) (fun c5 => ?_)
  · refine lv_aload_n hx hb dX7_know_9 rfl (lv_at hl 0 rfl) ?_
    refine lv_iload_n hx hb dX7_know_10 rfl (lv_at hl 1 rfl) ?_
    refine va_put (D := D) (ci := 6) (v := .int (zI (n))) (ty := .int) (C := RX7) (T := TX7) (N := 16) hx hb hts iX7 tyX7 tyX7_ok nmX7 hown hK hP hD hS 0 rfl rfl 8 (by decide) (hts (.fieldLink RX7 29 "CancelRowsModel" "known" "I") (by decide +kernel)) (fun _ h9 => h9) rfl (by decide +kernel) rfl rfl (Nat.le_of_ble_eq_true rfl) dX7_know_11 (fun H locs hP hD hS => ?_)
    have hP : va_P D vwCl [oM y b (((R : Nat) : Int)) (fm1) (n) (pm0) (lm), aI t (b 6) 6000 (Pr), aI t (b 7) 600 (Lr), aI t (b 8) 2048 (Sm)] H := hP
    have hD : va_D AA [oM y b (((R : Nat) : Int)) (fm1) (n) (pm0) (lm), aI t (b 6) 6000 (Pr), aI t (b 7) 600 (Lr), aI t (b 8) 2048 (Sm)] := hD
    refine lv_iconst (v := zI 1) hx hb dX7_know_14 rfl ?_
    refine lv_iload_n hx hb dX7_know_15 rfl (lv_at hl 1 rfl) ?_
    refine z_ishl hx hb (q := n) (by omega) dX7_know_16 ?_
    refine z_re (e2 := ((2 ^ n : Nat) : Int)) (by rw [Int.one_mul]; exact (Int.natCast_pow 2 n).symm) ?_
    refine lv_istore_n (lv' := [(2, .int (zI (((2 ^ n : Nat) : Int)))), (0, .ref y), (1, .int (zI (n)))]) hx hb dX7_know_17 rfl hl (by decide) rfl (fun ls hl => ?_)
    refine lv_iconst (v := zI 0) hx hb dX7_know_18 rfl ?_
    refine z_re (e2 := ((0 : Nat) : Int)) (rfl) ?_
    refine lv_istore_n (lv' := [(3, .int (zI (((0 : Nat) : Int)))), (2, .int (zI (((2 ^ n : Nat) : Int)))), (0, .ref y), (1, .int (zI (n)))]) hx hb dX7_know_19 rfl hl (by decide) rfl (fun ls hl => ?_)
    have lp20 : ∀ (NN : Nat) (a : Nat) (S : Nat → Int) (q1 : a ≤ 2 ^ n) (q2 : suR n S a 1), 2 ^ n - a < NN → ∀ (H : Heap) (locs : List Loc), va_P D vwCl [oM y b (((R : Nat) : Int)) (fm1) (((n : Nat) : Int)) (pm0) (lm), aI t (b 6) 6000 (Pr), aI t (b 7) 600 (Lr), aI t (b 8) 2048 (S)] H → va_D AA [oM y b (((R : Nat) : Int)) (fm1) (((n : Nat) : Int)) (pm0) (lm), aI t (b 6) 6000 (Pr), aI t (b 7) 600 (Lr), aI t (b 8) 2048 (S)] → va_S AA s.heap H locs → ∀ (ls : Array Slot), lv_has ls 7 [(0, .ref y), (1, .int (zI (n))), (2, .int (zI (((2 ^ n : Nat) : Int)))), (3, .int (zI (a)))] → W p l e (headSpec wsX7_know ({ frames := 3, cells := 0, slots := 0, locals := 81 })).room s m ([.ref y, .int (zI (n))] : List Value).toArray below meth c H locs 0 0 (MQ below (va_Qv (fun (u : Int × Int × (Nat → Int) × (Nat → Int) × (Nat → Int)) => pOK n u.1 u.2.1 u.2.2.1 u.2.2.2.1) (fun (u : Int × Int × (Nat → Int) × (Nat → Int) × (Nat → Int)) t1 => va_P D vwCl ([oM y b (((R : Nat) : Int)) (fm1) (((n : Nat) : Int)) (u.1) (u.2.1), aI t (b 6) 6000 (u.2.2.1), aI t (b 7) 600 (u.2.2.2.1), aI t (b 8) 2048 (u.2.2.2.2)]) t1.heap ∧ va_K D vwCl (TY t) t1 ∧ va_D (AA) ([oM y b (((R : Nat) : Int)) (fm1) (((n : Nat) : Int)) (u.1) (u.2.1), aI t (b 6) 6000 (u.2.2.1), aI t (b 7) 600 (u.2.2.2.1), aI t (b 8) 2048 (u.2.2.2.2)])) (AA)) ([.ref y, .int (zI (n))] : List Value).toArray s 0 0 (AA)) (F0 m 20 ls []) := by
      intro NN
      induction NN with
      | zero =>
        intro a S q1 q2 hmu
        exact absurd hmu (Nat.not_lt_zero _)
      | succ NN ih20 =>
        intro a S q1 q2 hmu H locs hP hD hS ls hl
        refine lv_iload_n hx hb dX7_know_20 rfl (lv_at hl 3 rfl) ?_
        refine lv_iload_n hx hb dX7_know_21 rfl (lv_at hl 2 rfl) ?_
        refine z_icmp_ge (tgt := 66) hx hb dX7_know_22 (by decide) (by omega) (by omega) (fun c22 => ?_) (fun c22 => ?_)
        · have qS : suR n S (2 ^ n) 1 := by rw [show a = 2 ^ n by omega] at q2; exact q2
          refine lv_aload_n hx hb dX7_know_66 rfl (lv_at hl 0 rfl) ?_
          refine lv_iconst (v := zI 0) hx hb dX7_know_67 rfl ?_
          refine z_re (e2 := ((0 : Nat) : Int)) (rfl) ?_
          refine va_put (D := D) (ci := 6) (v := .int (zI (((0 : Nat) : Int)))) (ty := .int) (C := RX7) (T := TX7) (N := 16) hx hb hts iX7 tyX7 tyX7_ok nmX7 hown hK hP hD hS 0 rfl rfl 9 (by decide) (hts (.fieldLink RX7 140 "CancelRowsModel" "pairMany" "I") (by decide +kernel)) (fun _ h9 => h9) rfl (by decide +kernel) rfl rfl (Nat.le_of_ble_eq_true rfl) dX7_know_68 (fun H locs hP hD hS => ?_)
          have hP : va_P D vwCl [oM y b (((R : Nat) : Int)) (fm1) (((n : Nat) : Int)) (((0 : Nat) : Int)) (lm), aI t (b 6) 6000 (Pr), aI t (b 7) 600 (Lr), aI t (b 8) 2048 (S)] H := hP
          have hD : va_D AA [oM y b (((R : Nat) : Int)) (fm1) (((n : Nat) : Int)) (((0 : Nat) : Int)) (lm), aI t (b 6) 6000 (Pr), aI t (b 7) 600 (Lr), aI t (b 8) 2048 (S)] := hD
          refine lv_aload_n hx hb dX7_know_71 rfl (lv_at hl 0 rfl) ?_
          refine lv_iconst (v := zI 0) hx hb dX7_know_72 rfl ?_
          refine z_re (e2 := ((0 : Nat) : Int)) (rfl) ?_
          refine va_put (D := D) (ci := 6) (v := .int (zI (((0 : Nat) : Int)))) (ty := .int) (C := RX7) (T := TX7) (N := 16) hx hb hts iX7 tyX7 tyX7_ok nmX7 hown hK hP hD hS 0 rfl rfl 11 (by decide) (hts (.fieldLink RX7 143 "CancelRowsModel" "leastMany" "I") (by decide +kernel)) (fun _ h9 => h9) rfl (by decide +kernel) rfl rfl (Nat.le_of_ble_eq_true rfl) dX7_know_73 (fun H locs hP hD hS => ?_)
          have hP : va_P D vwCl [oM y b (((R : Nat) : Int)) (fm1) (((n : Nat) : Int)) (((0 : Nat) : Int)) (((0 : Nat) : Int)), aI t (b 6) 6000 (Pr), aI t (b 7) 600 (Lr), aI t (b 8) 2048 (S)] H := hP
          have hD : va_D AA [oM y b (((R : Nat) : Int)) (fm1) (((n : Nat) : Int)) (((0 : Nat) : Int)) (((0 : Nat) : Int)), aI t (b 6) 6000 (Pr), aI t (b 7) 600 (Lr), aI t (b 8) 2048 (S)] := hD
          refine lv_iconst (v := zI 0) hx hb dX7_know_76 rfl ?_
          refine z_re (e2 := ((0 : Nat) : Int)) (rfl) ?_
          refine lv_istore_n (lv' := [(3, .int (zI (((0 : Nat) : Int)))), (0, .ref y), (1, .int (zI (n))), (2, .int (zI (((2 ^ n : Nat) : Int))))]) hx hb dX7_know_77 rfl hl (by decide) rfl (fun ls hl => ?_)
          have lp78 : ∀ (NN : Nat) (a : Nat) (jp : Nat) (jl : Nat) (P : Nat → Int) (L : Nat → Int) (q1 : a ≤ 2 ^ n) (q2 : pI n (2 ^ n) a 0 jp jl P L), 2 ^ n - a < NN → ∀ (H : Heap) (locs : List Loc), va_P D vwCl [oM y b (((R : Nat) : Int)) (fm1) (((n : Nat) : Int)) (((jp : Nat) : Int)) (((jl : Nat) : Int)), aI t (b 6) 6000 (P), aI t (b 7) 600 (L), aI t (b 8) 2048 (S)] H → va_D AA [oM y b (((R : Nat) : Int)) (fm1) (((n : Nat) : Int)) (((jp : Nat) : Int)) (((jl : Nat) : Int)), aI t (b 6) 6000 (P), aI t (b 7) 600 (L), aI t (b 8) 2048 (S)] → va_S AA s.heap H locs → ∀ (ls : Array Slot), lv_has ls 7 [(0, .ref y), (1, .int (zI (n))), (2, .int (zI (((2 ^ n : Nat) : Int)))), (3, .int (zI (a)))] → W p l e (headSpec wsX7_know ({ frames := 3, cells := 0, slots := 0, locals := 81 })).room s m ([.ref y, .int (zI (n))] : List Value).toArray below meth c H locs 0 0 (MQ below (va_Qv (fun (u : Int × Int × (Nat → Int) × (Nat → Int) × (Nat → Int)) => pOK n u.1 u.2.1 u.2.2.1 u.2.2.2.1) (fun (u : Int × Int × (Nat → Int) × (Nat → Int) × (Nat → Int)) t1 => va_P D vwCl ([oM y b (((R : Nat) : Int)) (fm1) (((n : Nat) : Int)) (u.1) (u.2.1), aI t (b 6) 6000 (u.2.2.1), aI t (b 7) 600 (u.2.2.2.1), aI t (b 8) 2048 (u.2.2.2.2)]) t1.heap ∧ va_K D vwCl (TY t) t1 ∧ va_D (AA) ([oM y b (((R : Nat) : Int)) (fm1) (((n : Nat) : Int)) (u.1) (u.2.1), aI t (b 6) 6000 (u.2.2.1), aI t (b 7) 600 (u.2.2.2.1), aI t (b 8) 2048 (u.2.2.2.2)])) (AA)) ([.ref y, .int (zI (n))] : List Value).toArray s 0 0 (AA)) (F0 m 78 ls []) := by
            intro NN
            induction NN with
            | zero =>
              intro a jp jl P L q1 q2 hmu
              exact absurd hmu (Nat.not_lt_zero _)
            | succ NN ih78 =>
              intro a jp jl P L q1 q2 hmu H locs hP hD hS ls hl
              refine lv_iload_n hx hb dX7_know_78 rfl (lv_at hl 3 rfl) ?_
              refine lv_iload_n hx hb dX7_know_79 rfl (lv_at hl 2 rfl) ?_
              refine z_icmp_ge (tgt := 232) hx hb dX7_know_80 (by decide) (by omega) (by omega) (fun c80 => ?_) (fun c80 => ?_)
              · exact W.vret hx hb hr (fun tq ht hW => ⟨⟨(((jp : Nat) : Int), ((jl : Nat) : Int), P, L, S), rfl, by rw [show a = 2 ^ n by omega] at q2; exact pI_all q2, by rw [ht]; exact hP, va_K.moved hW.alike hK, hD⟩, hS.F ht⟩) hS.2.2 dX7_know_232
              · refine lv_iconst (v := zI 0) hx hb dX7_know_83 rfl ?_
                refine z_re (e2 := ((0 : Nat) : Int)) (rfl) ?_
                refine lv_istore (lv' := [(4, .int (zI (((0 : Nat) : Int)))), (0, .ref y), (1, .int (zI (n))), (2, .int (zI (((2 ^ n : Nat) : Int)))), (3, .int (zI (a)))]) hx hb dX7_know_84 hl (by decide) rfl (fun ls hl => ?_)
                have lp86 : ∀ (NN : Nat) (b1 : Nat) (jp : Nat) (jl : Nat) (P : Nat → Int) (L : Nat → Int) (r1 : b1 ≤ 2 ^ n) (r2 : pI n (2 ^ n) a b1 jp jl P L), 2 ^ n - b1 < NN → ∀ (H : Heap) (locs : List Loc), va_P D vwCl [oM y b (((R : Nat) : Int)) (fm1) (((n : Nat) : Int)) (((jp : Nat) : Int)) (((jl : Nat) : Int)), aI t (b 6) 6000 (P), aI t (b 7) 600 (L), aI t (b 8) 2048 (S)] H → va_D AA [oM y b (((R : Nat) : Int)) (fm1) (((n : Nat) : Int)) (((jp : Nat) : Int)) (((jl : Nat) : Int)), aI t (b 6) 6000 (P), aI t (b 7) 600 (L), aI t (b 8) 2048 (S)] → va_S AA s.heap H locs → ∀ (ls : Array Slot), lv_has ls 7 [(0, .ref y), (1, .int (zI (n))), (2, .int (zI (((2 ^ n : Nat) : Int)))), (3, .int (zI (a))), (4, .int (zI (b1)))] → W p l e (headSpec wsX7_know ({ frames := 3, cells := 0, slots := 0, locals := 81 })).room s m ([.ref y, .int (zI (n))] : List Value).toArray below meth c H locs 0 0 (MQ below (va_Qv (fun (u : Int × Int × (Nat → Int) × (Nat → Int) × (Nat → Int)) => pOK n u.1 u.2.1 u.2.2.1 u.2.2.2.1) (fun (u : Int × Int × (Nat → Int) × (Nat → Int) × (Nat → Int)) t1 => va_P D vwCl ([oM y b (((R : Nat) : Int)) (fm1) (((n : Nat) : Int)) (u.1) (u.2.1), aI t (b 6) 6000 (u.2.2.1), aI t (b 7) 600 (u.2.2.2.1), aI t (b 8) 2048 (u.2.2.2.2)]) t1.heap ∧ va_K D vwCl (TY t) t1 ∧ va_D (AA) ([oM y b (((R : Nat) : Int)) (fm1) (((n : Nat) : Int)) (u.1) (u.2.1), aI t (b 6) 6000 (u.2.2.1), aI t (b 7) 600 (u.2.2.2.1), aI t (b 8) 2048 (u.2.2.2.2)])) (AA)) ([.ref y, .int (zI (n))] : List Value).toArray s 0 0 (AA)) (F0 m 86 ls []) := by
                  intro NN
                  induction NN with
                  | zero =>
                    intro b1 jp jl P L r1 r2 hmu
                    exact absurd hmu (Nat.not_lt_zero _)
                  | succ NN ih86 =>
                    intro b1 jp jl P L r1 r2 hmu H locs hP hD hS ls hl
                    refine lv_iload hx hb dX7_know_86 (lv_at hl 4 rfl) ?_
                    refine lv_iload_n hx hb dX7_know_88 rfl (lv_at hl 2 rfl) ?_
                    refine z_icmp_ge (tgt := 226) hx hb dX7_know_89 (by decide) (by omega) (by omega) (fun c89 => ?_) (fun c89 => ?_)
                    · refine lv_iinc (v := zI (((a + 1 : Nat) : Int))) (lv' := [(3, .int (zI (((a + 1 : Nat) : Int)))), (0, .ref y), (1, .int (zI (n))), (2, .int (zI (((2 ^ n : Nat) : Int)))), (4, .int (zI (b1)))]) hx hb dX7_know_226 hl (k := 3) rfl (zI_incr (by omega)) (by decide) rfl (fun ls hl => ?_)
                      refine lv_goto (tgt := 78) hx hb dX7_know_229 (by decide) ?_
                      exact ih78 (a + 1) (jp) (jl) (P) (L) (by omega) (pI_e (by rw [show b1 = 2 ^ n by omega] at r2; exact r2)) (by omega) _ _ hP hD hS _ (lv_sub hl [1, 2, 3, 0] rfl)
                    · refine lv_iconst (v := zI 1) hx hb dX7_know_92 rfl ?_
                      refine z_re (e2 := ((1 : Nat) : Int)) (rfl) ?_
                      refine lv_istore (lv' := [(5, .int (zI (((1 : Nat) : Int)))), (0, .ref y), (1, .int (zI (n))), (2, .int (zI (((2 ^ n : Nat) : Int)))), (3, .int (zI (a))), (4, .int (zI (b1)))]) hx hb dX7_know_93 hl (by decide) rfl (fun ls hl => ?_)
                      refine lv_iconst (v := zI 1) hx hb dX7_know_95 rfl ?_
                      refine z_re (e2 := ((1 : Nat) : Int)) (rfl) ?_
                      refine lv_istore (lv' := [(6, .int (zI (((1 : Nat) : Int)))), (5, .int (zI (((1 : Nat) : Int)))), (0, .ref y), (1, .int (zI (n))), (2, .int (zI (((2 ^ n : Nat) : Int)))), (3, .int (zI (a))), (4, .int (zI (b1)))]) hx hb dX7_know_96 hl (by decide) rfl (fun ls hl => ?_)
                      have lp98 : ∀ (NN : Nat) (k : Nat) (cn : Nat) (s1 : 1 ≤ k ∧ k ≤ n) (s2 : cn ≤ 1) (s3 : ¬ cn = 0 → ff (fun k => oS n a k + oS n b1 k) 1 (n - 1) = ff (fun k => oS n a k + oS n b1 k) k (n - k)) (s4 : cn = 0 → ¬ ff (fun k => oS n a k + oS n b1 k) 1 (n - 1) = 0), n - k < NN → ∀ (H : Heap) (locs : List Loc), va_P D vwCl [oM y b (((R : Nat) : Int)) (fm1) (((n : Nat) : Int)) (((jp : Nat) : Int)) (((jl : Nat) : Int)), aI t (b 6) 6000 (P), aI t (b 7) 600 (L), aI t (b 8) 2048 (S)] H → va_D AA [oM y b (((R : Nat) : Int)) (fm1) (((n : Nat) : Int)) (((jp : Nat) : Int)) (((jl : Nat) : Int)), aI t (b 6) 6000 (P), aI t (b 7) 600 (L), aI t (b 8) 2048 (S)] → va_S AA s.heap H locs → ∀ (ls : Array Slot), lv_has ls 7 [(0, .ref y), (1, .int (zI (n))), (2, .int (zI (((2 ^ n : Nat) : Int)))), (3, .int (zI (a))), (4, .int (zI (b1))), (5, .int (zI (cn))), (6, .int (zI (k)))] → W p l e (headSpec wsX7_know ({ frames := 3, cells := 0, slots := 0, locals := 81 })).room s m ([.ref y, .int (zI (n))] : List Value).toArray below meth c H locs 0 0 (MQ below (va_Qv (fun (u : Int × Int × (Nat → Int) × (Nat → Int) × (Nat → Int)) => pOK n u.1 u.2.1 u.2.2.1 u.2.2.2.1) (fun (u : Int × Int × (Nat → Int) × (Nat → Int) × (Nat → Int)) t1 => va_P D vwCl ([oM y b (((R : Nat) : Int)) (fm1) (((n : Nat) : Int)) (u.1) (u.2.1), aI t (b 6) 6000 (u.2.2.1), aI t (b 7) 600 (u.2.2.2.1), aI t (b 8) 2048 (u.2.2.2.2)]) t1.heap ∧ va_K D vwCl (TY t) t1 ∧ va_D (AA) ([oM y b (((R : Nat) : Int)) (fm1) (((n : Nat) : Int)) (u.1) (u.2.1), aI t (b 6) 6000 (u.2.2.1), aI t (b 7) 600 (u.2.2.2.1), aI t (b 8) 2048 (u.2.2.2.2)])) (AA)) ([.ref y, .int (zI (n))] : List Value).toArray s 0 0 (AA)) (F0 m 98 ls []) := by
                        intro NN
                        induction NN with
                        | zero =>
                          intro k cn s1 s2 s3 s4 hmu
                          exact absurd hmu (Nat.not_lt_zero _)
                        | succ NN ih98 =>
                          intro k cn s1 s2 s3 s4 hmu H locs hP hD hS ls hl
                          have b5 := oS_bd n a k
                          have b6 := oS_bd n b1 k
                          refine lv_iload hx hb dX7_know_98 (lv_at hl 6 rfl) ?_
                          refine lv_iload_n hx hb dX7_know_100 rfl (lv_at hl 1 rfl) ?_
                          refine z_icmp_ge (tgt := 151) hx hb dX7_know_101 (by decide) (by omega) (by omega) (fun c101 => ?_) (fun c101 => ?_)
                          · have hcc : k = n ∨ cn = 0 := by omega
                            refine lv_iload hx hb dX7_know_151 (lv_at hl 5 rfl) ?_
                            refine z_if_eq (tgt := 220) hx hb dX7_know_153 (by decide) (by omega) (fun c153 => ?_) (fun c153 => ?_)
                            · have hcb := s4 (by omega)
                              refine lv_iinc (v := zI (((b1 + 1 : Nat) : Int))) (lv' := [(4, .int (zI (((b1 + 1 : Nat) : Int)))), (0, .ref y), (1, .int (zI (n))), (2, .int (zI (((2 ^ n : Nat) : Int)))), (3, .int (zI (a))), (5, .int (zI (cn))), (6, .int (zI (k)))]) hx hb dX7_know_220 hl (k := 4) rfl (zI_incr (by omega)) (by decide) rfl (fun ls hl => ?_)
                              refine lv_goto (tgt := 86) hx hb dX7_know_223 (by decide) ?_
                              exact ih86 (b1 + 1) (jp) (jl) (P) (L) (by omega) (pI_n r2 (cb_0 hcb)) (by omega) _ _ hP hD hS _ (lv_sub hl [1, 2, 3, 4, 0] rfl)
                            · have hcb : ff (fun k => oS n a k + oS n b1 k) 1 (n - 1) = 0 := by rw [s3 (by omega)]; exact ff_e _ (by omega)
                              have b7 := pI_by gn r2 (by omega) (by omega) (cb_1 hcb)
                              have b8 := pI_bd gn r2 (by omega) (by omega)
                              refine lv_aload_n hx hb dX7_know_156 rfl (lv_at hl 0 rfl) ?_
                              refine va_get (D := D) (ci := 6) (v := .ref (b 6)) (C := RX7) (T := TX7) (N := 16) hx hb hts iX7 hown hK hP 0 rfl rfl 10 (by decide) (hts (.fieldLink RX7 33 "CancelRowsModel" "pairRow" "[I") (by decide +kernel)) (fun _ h9 => h9) rfl dX7_know_157 ?_
                              refine lv_aload_n hx hb dX7_know_160 rfl (lv_at hl 0 rfl) ?_
                              refine va_get (D := D) (ci := 6) (v := .int (zI (((jp : Nat) : Int)))) (C := RX7) (T := TX7) (N := 16) hx hb hts iX7 hown hK hP 0 rfl rfl 9 (by decide) (hts (.fieldLink RX7 140 "CancelRowsModel" "pairMany" "I") (by decide +kernel)) (fun _ h9 => h9) rfl dX7_know_161 ?_
                              refine lv_sipush (v := zI 1000) hx hb dX7_know_164 (by decide +kernel) ?_
                              refine lv_iload_n hx hb dX7_know_167 rfl (lv_at hl 3 rfl) ?_
                              refine z_imul hx hb dX7_know_168 ?_
                              refine lv_iload hx hb dX7_know_169 (lv_at hl 4 rfl) ?_
                              refine z_iadd hx hb dX7_know_171 ?_
                              refine z_re (e2 := ((1000 * a + b1 : Nat) : Int)) (by omega) ?_
                              refine z_iast hx hb hK hP hD hS 1 0 rfl rfl (jp) (by omega) (by omega) (by omega) dX7_know_172 (fun H locs hP hD hS => ?_)
                              have hP : va_P D vwCl [oM y b (((R : Nat) : Int)) (fm1) (((n : Nat) : Int)) (((jp : Nat) : Int)) (((jl : Nat) : Int)), aI t (b 6) 6000 (va_up (P) (jp) (((1000 * a + b1 : Nat) : Int))), aI t (b 7) 600 (L), aI t (b 8) 2048 (S)] H := hP
                              have hD : va_D AA [oM y b (((R : Nat) : Int)) (fm1) (((n : Nat) : Int)) (((jp : Nat) : Int)) (((jl : Nat) : Int)), aI t (b 6) 6000 (va_up (P) (jp) (((1000 * a + b1 : Nat) : Int))), aI t (b 7) 600 (L), aI t (b 8) 2048 (S)] := hD
                              refine lv_aload_n hx hb dX7_know_173 rfl (lv_at hl 0 rfl) ?_
                              refine lv_dup hx hb dX7_know_174 rfl ?_
                              refine va_get (D := D) (ci := 6) (v := .int (zI (((jp : Nat) : Int)))) (C := RX7) (T := TX7) (N := 16) hx hb hts iX7 hown hK hP 0 rfl rfl 9 (by decide) (hts (.fieldLink RX7 140 "CancelRowsModel" "pairMany" "I") (by decide +kernel)) (fun _ h9 => h9) rfl dX7_know_175 ?_
                              refine lv_iconst (v := zI 1) hx hb dX7_know_178 rfl ?_
                              refine z_iadd hx hb dX7_know_179 ?_
                              refine z_re (e2 := ((jp + 1 : Nat) : Int)) (by omega) ?_
                              refine va_put (D := D) (ci := 6) (v := .int (zI (((jp + 1 : Nat) : Int)))) (ty := .int) (C := RX7) (T := TX7) (N := 16) hx hb hts iX7 tyX7 tyX7_ok nmX7 hown hK hP hD hS 0 rfl rfl 9 (by decide) (hts (.fieldLink RX7 140 "CancelRowsModel" "pairMany" "I") (by decide +kernel)) (fun _ h9 => h9) rfl (by decide +kernel) rfl rfl (Nat.le_of_ble_eq_true rfl) dX7_know_180 (fun H locs hP hD hS => ?_)
                              have hP : va_P D vwCl [oM y b (((R : Nat) : Int)) (fm1) (((n : Nat) : Int)) (((jp + 1 : Nat) : Int)) (((jl : Nat) : Int)), aI t (b 6) 6000 (va_up (P) (jp) (((1000 * a + b1 : Nat) : Int))), aI t (b 7) 600 (L), aI t (b 8) 2048 (S)] H := hP
                              have hD : va_D AA [oM y b (((R : Nat) : Int)) (fm1) (((n : Nat) : Int)) (((jp + 1 : Nat) : Int)) (((jl : Nat) : Int)), aI t (b 6) 6000 (va_up (P) (jp) (((1000 * a + b1 : Nat) : Int))), aI t (b 7) 600 (L), aI t (b 8) 2048 (S)] := hD
                              refine lv_iload_n hx hb dX7_know_183 rfl (lv_at hl 1 rfl) ?_
                              refine lv_iload_n hx hb dX7_know_184 rfl (lv_at hl 3 rfl) ?_
                              refine lv_iload hx hb dX7_know_185 (lv_at hl 4 rfl) ?_
                              refine vp_callSi (va_runS (As := [.int (zI (n)), .int (zI (a)), .int (zI (b1))]) (rest := []) ⟨hx, hb, hml, hown, hts⟩ (c_X7_isLeast l n a b1 gn.2 (by omega) (by omega)) (va_cwS 3 hts gX7_know_X7_isLeast rfl rfl rfl (by decide +kernel) ⟨Nat.le_of_ble_eq_true rfl, Nat.le_of_ble_eq_true rfl⟩) ⟨fun a U g mk q => q, fun U hU hW => ⟨rfl, trivial⟩⟩ rfl rfl hl.1 rfl (lv_room (Nat.le_of_ble_eq_true rfl)) dX7_know_187 ⟨Nat.le_of_ble_eq_true rfl, Nat.le_of_ble_eq_true rfl⟩).run (fun r hr187 => ?_)
                              obtain rfl := hr187
                              refine z_ifb_eq (P := isLs (n) (a) (b1) = true) (tgt := 220) hx hb dX7_know_190 (by decide) (fun c190 => ?_) (fun c190 => ?_)
                              · refine lv_iinc (v := zI (((b1 + 1 : Nat) : Int))) (lv' := [(4, .int (zI (((b1 + 1 : Nat) : Int)))), (0, .ref y), (1, .int (zI (n))), (2, .int (zI (((2 ^ n : Nat) : Int)))), (3, .int (zI (a))), (5, .int (zI (cn))), (6, .int (zI (k)))]) hx hb dX7_know_220 hl (k := 4) rfl (zI_incr (by omega)) (by decide) rfl (fun ls hl => ?_)
                                refine lv_goto (tgt := 86) hx hb dX7_know_223 (by decide) ?_
                                exact ih86 (b1 + 1) (jp + 1) (jl) (va_up (P) (jp) (((1000 * a + b1 : Nat) : Int))) (L) (by omega) (pI_0 r2 (cb_1 hcb) (by omega) c190 (by omega)) (by omega) _ _ hP hD hS _ (lv_sub hl [1, 2, 3, 4, 0] rfl)
                              · refine lv_aload_n hx hb dX7_know_193 rfl (lv_at hl 0 rfl) ?_
                                refine va_get (D := D) (ci := 6) (v := .ref (b 7)) (C := RX7) (T := TX7) (N := 16) hx hb hts iX7 hown hK hP 0 rfl rfl 12 (by decide) (hts (.fieldLink RX7 36 "CancelRowsModel" "leastRow" "[I") (by decide +kernel)) (fun _ h9 => h9) rfl dX7_know_194 ?_
                                refine lv_aload_n hx hb dX7_know_197 rfl (lv_at hl 0 rfl) ?_
                                refine va_get (D := D) (ci := 6) (v := .int (zI (((jl : Nat) : Int)))) (C := RX7) (T := TX7) (N := 16) hx hb hts iX7 hown hK hP 0 rfl rfl 11 (by decide) (hts (.fieldLink RX7 143 "CancelRowsModel" "leastMany" "I") (by decide +kernel)) (fun _ h9 => h9) rfl dX7_know_198 ?_
                                refine lv_sipush (v := zI 1000) hx hb dX7_know_201 (by decide +kernel) ?_
                                refine lv_iload_n hx hb dX7_know_204 rfl (lv_at hl 3 rfl) ?_
                                refine z_imul hx hb dX7_know_205 ?_
                                refine lv_iload hx hb dX7_know_206 (lv_at hl 4 rfl) ?_
                                refine z_iadd hx hb dX7_know_208 ?_
                                refine z_re (e2 := ((1000 * a + b1 : Nat) : Int)) (by omega) ?_
                                refine z_iast hx hb hK hP hD hS 2 0 rfl rfl (jl) (by omega) (by omega) (by omega) dX7_know_209 (fun H locs hP hD hS => ?_)
                                have hP : va_P D vwCl [oM y b (((R : Nat) : Int)) (fm1) (((n : Nat) : Int)) (((jp + 1 : Nat) : Int)) (((jl : Nat) : Int)), aI t (b 6) 6000 (va_up (P) (jp) (((1000 * a + b1 : Nat) : Int))), aI t (b 7) 600 (va_up (L) (jl) (((1000 * a + b1 : Nat) : Int))), aI t (b 8) 2048 (S)] H := hP
                                have hD : va_D AA [oM y b (((R : Nat) : Int)) (fm1) (((n : Nat) : Int)) (((jp + 1 : Nat) : Int)) (((jl : Nat) : Int)), aI t (b 6) 6000 (va_up (P) (jp) (((1000 * a + b1 : Nat) : Int))), aI t (b 7) 600 (va_up (L) (jl) (((1000 * a + b1 : Nat) : Int))), aI t (b 8) 2048 (S)] := hD
                                refine lv_aload_n hx hb dX7_know_210 rfl (lv_at hl 0 rfl) ?_
                                refine lv_dup hx hb dX7_know_211 rfl ?_
                                refine va_get (D := D) (ci := 6) (v := .int (zI (((jl : Nat) : Int)))) (C := RX7) (T := TX7) (N := 16) hx hb hts iX7 hown hK hP 0 rfl rfl 11 (by decide) (hts (.fieldLink RX7 143 "CancelRowsModel" "leastMany" "I") (by decide +kernel)) (fun _ h9 => h9) rfl dX7_know_212 ?_
                                refine lv_iconst (v := zI 1) hx hb dX7_know_215 rfl ?_
                                refine z_iadd hx hb dX7_know_216 ?_
                                refine z_re (e2 := ((jl + 1 : Nat) : Int)) (by omega) ?_
                                refine va_put (D := D) (ci := 6) (v := .int (zI (((jl + 1 : Nat) : Int)))) (ty := .int) (C := RX7) (T := TX7) (N := 16) hx hb hts iX7 tyX7 tyX7_ok nmX7 hown hK hP hD hS 0 rfl rfl 11 (by decide) (hts (.fieldLink RX7 143 "CancelRowsModel" "leastMany" "I") (by decide +kernel)) (fun _ h9 => h9) rfl (by decide +kernel) rfl rfl (Nat.le_of_ble_eq_true rfl) dX7_know_217 (fun H locs hP hD hS => ?_)
                                have hP : va_P D vwCl [oM y b (((R : Nat) : Int)) (fm1) (((n : Nat) : Int)) (((jp + 1 : Nat) : Int)) (((jl + 1 : Nat) : Int)), aI t (b 6) 6000 (va_up (P) (jp) (((1000 * a + b1 : Nat) : Int))), aI t (b 7) 600 (va_up (L) (jl) (((1000 * a + b1 : Nat) : Int))), aI t (b 8) 2048 (S)] H := hP
                                have hD : va_D AA [oM y b (((R : Nat) : Int)) (fm1) (((n : Nat) : Int)) (((jp + 1 : Nat) : Int)) (((jl + 1 : Nat) : Int)), aI t (b 6) 6000 (va_up (P) (jp) (((1000 * a + b1 : Nat) : Int))), aI t (b 7) 600 (va_up (L) (jl) (((1000 * a + b1 : Nat) : Int))), aI t (b 8) 2048 (S)] := hD
                                refine lv_iinc (v := zI (((b1 + 1 : Nat) : Int))) (lv' := [(4, .int (zI (((b1 + 1 : Nat) : Int)))), (0, .ref y), (1, .int (zI (n))), (2, .int (zI (((2 ^ n : Nat) : Int)))), (3, .int (zI (a))), (5, .int (zI (cn))), (6, .int (zI (k)))]) hx hb dX7_know_220 hl (k := 4) rfl (zI_incr (by omega)) (by decide) rfl (fun ls hl => ?_)
                                refine lv_goto (tgt := 86) hx hb dX7_know_223 (by decide) ?_
                                exact ih86 (b1 + 1) (jp + 1) (jl + 1) (va_up (P) (jp) (((1000 * a + b1 : Nat) : Int))) (va_up (L) (jl) (((1000 * a + b1 : Nat) : Int))) (by omega) (pI_1 r2 (cb_1 hcb) (by omega) c190 (by omega)) (by omega) _ _ hP hD hS _ (lv_sub hl [1, 2, 3, 4, 0] rfl)
                          · refine lv_iload hx hb dX7_know_104 (lv_at hl 5 rfl) ?_
                            refine z_if_eq (tgt := 151) hx hb dX7_know_106 (by decide) (by omega) (fun c106 => ?_) (fun c106 => ?_)
                            · have hcc : k = n ∨ cn = 0 := by omega
                              refine lv_iload hx hb dX7_know_151 (lv_at hl 5 rfl) ?_
                              refine z_if_eq (tgt := 220) hx hb dX7_know_153 (by decide) (by omega) (fun c153 => ?_) (fun c153 => ?_)
                              · have hcb := s4 (by omega)
                                refine lv_iinc (v := zI (((b1 + 1 : Nat) : Int))) (lv' := [(4, .int (zI (((b1 + 1 : Nat) : Int)))), (0, .ref y), (1, .int (zI (n))), (2, .int (zI (((2 ^ n : Nat) : Int)))), (3, .int (zI (a))), (5, .int (zI (cn))), (6, .int (zI (k)))]) hx hb dX7_know_220 hl (k := 4) rfl (zI_incr (by omega)) (by decide) rfl (fun ls hl => ?_)
                                refine lv_goto (tgt := 86) hx hb dX7_know_223 (by decide) ?_
                                exact ih86 (b1 + 1) (jp) (jl) (P) (L) (by omega) (pI_n r2 (cb_0 hcb)) (by omega) _ _ hP hD hS _ (lv_sub hl [1, 2, 3, 4, 0] rfl)
                              · exact absurd c106 c153
                            · refine lv_aload_n hx hb dX7_know_109 rfl (lv_at hl 0 rfl) ?_
                              refine va_get (D := D) (ci := 6) (v := .ref (b 8)) (C := RX7) (T := TX7) (N := 16) hx hb hts iX7 hown hK hP 0 rfl rfl 13 (by decide) (hts (.fieldLink RX7 39 "CancelRowsModel" "sums" "[I") (by decide +kernel)) (fun _ h9 => h9) rfl dX7_know_110 ?_
                              refine lv_bipush (v := zI 8) hx hb dX7_know_113 (by decide +kernel) ?_
                              refine lv_iload_n hx hb dX7_know_115 rfl (lv_at hl 3 rfl) ?_
                              refine z_imul hx hb dX7_know_116 ?_
                              refine z_re (e2 := ((8 * a : Nat) : Int)) (by omega) ?_
                              refine lv_iload hx hb dX7_know_117 (lv_at hl 6 rfl) ?_
                              refine z_iadd hx hb dX7_know_119 ?_
                              refine z_re (e2 := ((8 * a + k : Nat) : Int)) (by omega) ?_
                              refine z_iald hx hb hK hP 3 0 rfl rfl (8 * a + k) (by omega) (by omega) (by omega) dX7_know_120 ?_
                              refine z_re (e2 := oS n a k) (qS.1 a k (by omega) (by omega) (by omega)) ?_
                              refine lv_aload_n hx hb dX7_know_121 rfl (lv_at hl 0 rfl) ?_
                              refine va_get (D := D) (ci := 6) (v := .ref (b 8)) (C := RX7) (T := TX7) (N := 16) hx hb hts iX7 hown hK hP 0 rfl rfl 13 (by decide) (hts (.fieldLink RX7 39 "CancelRowsModel" "sums" "[I") (by decide +kernel)) (fun _ h9 => h9) rfl dX7_know_122 ?_
                              refine lv_bipush (v := zI 8) hx hb dX7_know_125 (by decide +kernel) ?_
                              refine lv_iload hx hb dX7_know_127 (lv_at hl 4 rfl) ?_
                              refine z_imul hx hb dX7_know_129 ?_
                              refine z_re (e2 := ((8 * b1 : Nat) : Int)) (by omega) ?_
                              refine lv_iload hx hb dX7_know_130 (lv_at hl 6 rfl) ?_
                              refine z_iadd hx hb dX7_know_132 ?_
                              refine z_re (e2 := ((8 * b1 + k : Nat) : Int)) (by omega) ?_
                              refine z_iald hx hb hK hP 3 0 rfl rfl (8 * b1 + k) (by omega) (by omega) (by omega) dX7_know_133 ?_
                              refine z_re (e2 := oS n b1 k) (qS.1 b1 k (by omega) (by omega) (by omega)) ?_
                              refine z_iadd hx hb dX7_know_134 ?_
                              refine z_if_ne (tgt := 142) hx hb dX7_know_135 (by decide) (by omega) (fun c135 => ?_) (fun c135 => ?_)
                              · refine lv_iconst (v := zI 0) hx hb dX7_know_142 rfl ?_
                                refine z_re (e2 := ((0 : Nat) : Int)) (rfl) ?_
                                refine lv_istore (lv' := [(5, .int (zI (((0 : Nat) : Int)))), (0, .ref y), (1, .int (zI (n))), (2, .int (zI (((2 ^ n : Nat) : Int)))), (3, .int (zI (a))), (4, .int (zI (b1))), (6, .int (zI (k)))]) hx hb dX7_know_143 hl (by decide) rfl (fun ls hl => ?_)
                                refine lv_iinc (v := zI (((k + 1 : Nat) : Int))) (lv' := [(6, .int (zI (((k + 1 : Nat) : Int)))), (5, .int (zI (((0 : Nat) : Int)))), (0, .ref y), (1, .int (zI (n))), (2, .int (zI (((2 ^ n : Nat) : Int)))), (3, .int (zI (a))), (4, .int (zI (b1)))]) hx hb dX7_know_145 hl (k := 6) rfl (zI_incr (by omega)) (by decide) rfl (fun ls hl => ?_)
                                refine lv_goto (tgt := 98) hx hb dX7_know_148 (by decide) ?_
                                exact ih98 (k + 1) (0) (by omega) (by omega) (fun z => absurd rfl z) (fun _ => by rw [s3 (by omega), ff_s _ (by omega), if_pos (show ¬ oS n a k + oS n b1 k = 0 by omega)]; omega) (by omega) _ _ hP hD hS _ (lv_sub hl [2, 3, 4, 5, 6, 1, 0] rfl)
                              · refine lv_iconst (v := zI 1) hx hb dX7_know_138 rfl ?_
                                refine z_re (e2 := ((1 : Nat) : Int)) (rfl) ?_
                                refine lv_goto (tgt := 143) hx hb dX7_know_139 (by decide) ?_
                                refine lv_istore (lv' := [(5, .int (zI (((1 : Nat) : Int)))), (0, .ref y), (1, .int (zI (n))), (2, .int (zI (((2 ^ n : Nat) : Int)))), (3, .int (zI (a))), (4, .int (zI (b1))), (6, .int (zI (k)))]) hx hb dX7_know_143 hl (by decide) rfl (fun ls hl => ?_)
                                refine lv_iinc (v := zI (((k + 1 : Nat) : Int))) (lv' := [(6, .int (zI (((k + 1 : Nat) : Int)))), (5, .int (zI (((1 : Nat) : Int)))), (0, .ref y), (1, .int (zI (n))), (2, .int (zI (((2 ^ n : Nat) : Int)))), (3, .int (zI (a))), (4, .int (zI (b1)))]) hx hb dX7_know_145 hl (k := 6) rfl (zI_incr (by omega)) (by decide) rfl (fun ls hl => ?_)
                                refine lv_goto (tgt := 98) hx hb dX7_know_148 (by decide) ?_
                                exact ih98 (k + 1) (1) (by omega) (by omega) (fun _ => by rw [s3 (by omega), ff_s _ (by omega), if_neg (not_not_intro (show oS n a k + oS n b1 k = 0 by omega))]) (fun z => absurd z (by decide)) (by omega) _ _ hP hD hS _ (lv_sub hl [2, 3, 4, 5, 6, 1, 0] rfl)
                      exact lp98 _ (1) (1) (by omega) (by omega) (fun _ => rfl) (fun z => absurd z (by decide)) (Nat.lt_succ_self _) _ _ hP hD hS _ (lv_sub hl [2, 3, 4, 5, 6, 1, 0] rfl)
                exact lp86 _ (0) (jp) (jl) (P) (L) (by omega) (q2) (Nat.lt_succ_self _) _ _ hP hD hS _ (lv_sub hl [1, 2, 3, 4, 0] rfl)
          exact lp78 _ (0) (0) (0) (Pr) (Lr) (by omega) (pI_z _ _ _ _) (Nat.lt_succ_self _) _ _ hP hD hS _ (lv_sub hl [1, 2, 3, 0] rfl)
        · refine lv_iconst (v := zI 1) hx hb dX7_know_25 rfl ?_
          refine z_re (e2 := ((1 : Nat) : Int)) (rfl) ?_
          refine lv_istore (lv' := [(4, .int (zI (((1 : Nat) : Int)))), (0, .ref y), (1, .int (zI (n))), (2, .int (zI (((2 ^ n : Nat) : Int)))), (3, .int (zI (a)))]) hx hb dX7_know_26 hl (by decide) rfl (fun ls hl => ?_)
          have lp28 : ∀ (NN : Nat) (k : Nat) (S : Nat → Int) (r1 : 1 ≤ k ∧ k ≤ n) (r2 : suR n S a k), n - k < NN → ∀ (H : Heap) (locs : List Loc), va_P D vwCl [oM y b (((R : Nat) : Int)) (fm1) (((n : Nat) : Int)) (pm0) (lm), aI t (b 6) 6000 (Pr), aI t (b 7) 600 (Lr), aI t (b 8) 2048 (S)] H → va_D AA [oM y b (((R : Nat) : Int)) (fm1) (((n : Nat) : Int)) (pm0) (lm), aI t (b 6) 6000 (Pr), aI t (b 7) 600 (Lr), aI t (b 8) 2048 (S)] → va_S AA s.heap H locs → ∀ (ls : Array Slot), lv_has ls 7 [(0, .ref y), (1, .int (zI (n))), (2, .int (zI (((2 ^ n : Nat) : Int)))), (3, .int (zI (a))), (4, .int (zI (k)))] → W p l e (headSpec wsX7_know ({ frames := 3, cells := 0, slots := 0, locals := 81 })).room s m ([.ref y, .int (zI (n))] : List Value).toArray below meth c H locs 0 0 (MQ below (va_Qv (fun (u : Int × Int × (Nat → Int) × (Nat → Int) × (Nat → Int)) => pOK n u.1 u.2.1 u.2.2.1 u.2.2.2.1) (fun (u : Int × Int × (Nat → Int) × (Nat → Int) × (Nat → Int)) t1 => va_P D vwCl ([oM y b (((R : Nat) : Int)) (fm1) (((n : Nat) : Int)) (u.1) (u.2.1), aI t (b 6) 6000 (u.2.2.1), aI t (b 7) 600 (u.2.2.2.1), aI t (b 8) 2048 (u.2.2.2.2)]) t1.heap ∧ va_K D vwCl (TY t) t1 ∧ va_D (AA) ([oM y b (((R : Nat) : Int)) (fm1) (((n : Nat) : Int)) (u.1) (u.2.1), aI t (b 6) 6000 (u.2.2.1), aI t (b 7) 600 (u.2.2.2.1), aI t (b 8) 2048 (u.2.2.2.2)])) (AA)) ([.ref y, .int (zI (n))] : List Value).toArray s 0 0 (AA)) (F0 m 28 ls []) := by
            intro NN
            induction NN with
            | zero =>
              intro k S r1 r2 hmu
              exact absurd hmu (Nat.not_lt_zero _)
            | succ NN ih28 =>
              intro k S r1 r2 hmu H locs hP hD hS ls hl
              refine lv_iload hx hb dX7_know_28 (lv_at hl 4 rfl) ?_
              refine lv_iload_n hx hb dX7_know_30 rfl (lv_at hl 1 rfl) ?_
              refine z_icmp_ge (tgt := 60) hx hb dX7_know_31 (by decide) (by omega) (by omega) (fun c31 => ?_) (fun c31 => ?_)
              · refine lv_iinc (v := zI (((a + 1 : Nat) : Int))) (lv' := [(3, .int (zI (((a + 1 : Nat) : Int)))), (0, .ref y), (1, .int (zI (n))), (2, .int (zI (((2 ^ n : Nat) : Int)))), (4, .int (zI (k)))]) hx hb dX7_know_60 hl (k := 3) rfl (zI_incr (by omega)) (by decide) rfl (fun ls hl => ?_)
                refine lv_goto (tgt := 20) hx hb dX7_know_63 (by decide) ?_
                exact ih20 (a + 1) (S) (by omega) (suR_e (by rw [show k = n by omega] at r2; exact r2)) (by omega) _ _ hP hD hS _ (lv_sub hl [1, 2, 3, 0] rfl)
              · refine lv_aload_n hx hb dX7_know_34 rfl (lv_at hl 0 rfl) ?_
                refine va_get (D := D) (ci := 6) (v := .ref (b 8)) (C := RX7) (T := TX7) (N := 16) hx hb hts iX7 hown hK hP 0 rfl rfl 13 (by decide) (hts (.fieldLink RX7 39 "CancelRowsModel" "sums" "[I") (by decide +kernel)) (fun _ h9 => h9) rfl dX7_know_35 ?_
                refine lv_bipush (v := zI 8) hx hb dX7_know_38 (by decide +kernel) ?_
                refine lv_iload_n hx hb dX7_know_40 rfl (lv_at hl 3 rfl) ?_
                refine z_imul hx hb dX7_know_41 ?_
                refine z_re (e2 := ((8 * a : Nat) : Int)) (by omega) ?_
                refine lv_iload hx hb dX7_know_42 (lv_at hl 4 rfl) ?_
                refine z_iadd hx hb dX7_know_44 ?_
                refine z_re (e2 := ((8 * a + k : Nat) : Int)) (by omega) ?_
                refine lv_iload_n hx hb dX7_know_45 rfl (lv_at hl 1 rfl) ?_
                refine lv_iload_n hx hb dX7_know_46 rfl (lv_at hl 3 rfl) ?_
                refine n_i2l (a := a) hx hb (by omega) dX7_know_47 ?_
                refine lv_iload hx hb dX7_know_48 (lv_at hl 4 rfl) ?_
                refine vp_callSi (va_runS (As := [.int (zI (n)), .long (lN (a)), .int (zI (k))]) (rest := [.int (zI (((8 * a + k : Nat) : Int))), .ref (b 8)]) ⟨hx, hb, hml, hown, hts⟩ (c_X7_openOf l n a k (by omega) (by omega) (by omega)) (va_cwS 3 hts gX7_know_X7_openOf rfl rfl rfl (by decide +kernel) ⟨Nat.le_of_ble_eq_true rfl, Nat.le_of_ble_eq_true rfl⟩) ⟨fun a U g mk q => q, fun U hU hW => ⟨rfl, trivial⟩⟩ rfl rfl hl.1 rfl (lv_room (Nat.le_of_ble_eq_true rfl)) dX7_know_50 ⟨Nat.le_of_ble_eq_true rfl, Nat.le_of_ble_eq_true rfl⟩).run (fun r hr50 => ?_)
                obtain rfl := hr50
                refine z_iast hx hb hK hP hD hS 3 0 rfl rfl (8 * a + k) (by omega) (by omega) (by omega) dX7_know_53 (fun H locs hP hD hS => ?_)
                have hP : va_P D vwCl [oM y b (((R : Nat) : Int)) (fm1) (((n : Nat) : Int)) (pm0) (lm), aI t (b 6) 6000 (Pr), aI t (b 7) 600 (Lr), aI t (b 8) 2048 (va_up (S) (8 * a + k) (oS (n) (a) (k)))] H := hP
                have hD : va_D AA [oM y b (((R : Nat) : Int)) (fm1) (((n : Nat) : Int)) (pm0) (lm), aI t (b 6) 6000 (Pr), aI t (b 7) 600 (Lr), aI t (b 8) 2048 (va_up (S) (8 * a + k) (oS (n) (a) (k)))] := hD
                refine lv_iinc (v := zI (((k + 1 : Nat) : Int))) (lv' := [(4, .int (zI (((k + 1 : Nat) : Int)))), (0, .ref y), (1, .int (zI (n))), (2, .int (zI (((2 ^ n : Nat) : Int)))), (3, .int (zI (a)))]) hx hb dX7_know_54 hl (k := 4) rfl (zI_incr (by omega)) (by decide) rfl (fun ls hl => ?_)
                refine lv_goto (tgt := 28) hx hb dX7_know_57 (by decide) ?_
                exact ih28 (k + 1) (va_up (S) (8 * a + k) (oS (n) (a) (k))) (by omega) (suR_s gn.2 r2 (by omega)) (by omega) _ _ hP hD hS _ (lv_sub hl [1, 2, 3, 4, 0] rfl)
          exact lp28 _ (1) (S) (by omega) (q2) (Nat.lt_succ_self _) _ _ hP hD hS _ (lv_sub hl [1, 2, 3, 4, 0] rfl)
    exact lp20 _ (0) (Sm) (by omega) (⟨fun a h0 h1 => absurd h1 (Nat.not_lt_zero _), fun k h1 h2 => by omega⟩) (Nat.lt_succ_self _) _ _ hP hD hS _ (lv_sub hl [2, 3, 1, 0] rfl)
  · obtain rfl : kn = (n : Int) := by omega
    exact W.vret hx hb hr (fun tq ht hW => ⟨⟨(pm0, lm, Pr, Lr, Sm), rfl, gP rfl, by rw [ht]; exact hP, va_K.moved hW.alike hK, hD⟩, hS.F ht⟩) hS.2.2 dX7_know_8
