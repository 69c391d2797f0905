/-! pairs whose sums cancel: the few there are, told by the kernel -/
theorem ff_0 {f : Nat → Int} : ∀ {m k : Nat}, 1 ≤ k → (ff f k m = 0 ↔ ∀ j, j < m → f (k + j) = 0)
  | 0, k, _ => ⟨fun _ j hj => absurd hj (Nat.not_lt_zero j), fun _ => rfl⟩
  | m + 1, k, h => by
    show (if f k ≠ 0 then k else ff f (k + 1) m) = 0 ↔ _
    by_cases g : f k = 0
    · rw [if_neg (not_not_intro g), ff_0 (by omega)]
      constructor
      · intro z j hj
        cases j with
        | zero => exact g
        | succ j => have := z j (by omega); rw [show k + (j + 1) = k + 1 + j by omega]; exact this
      · intro z j hj
        have := z (j + 1) (by omega)
        rw [show k + 1 + j = k + (j + 1) by omega]
        exact this
    · rw [if_pos g]
      constructor
      · intro z; omega
      · intro z; exact absurd (z 0 (by omega)) g
def cb (n a b : Nat) : Bool := decide (ff (fun k => oS n a k + oS n b k) 1 (n - 1) = 0)
def T9 (n a : Nat) : List Nat := (List.range (n - 1)).map (fun j => (oS n a (j + 1) + (n : Int)).toNat)
def okT (m : Nat) : List Nat → List Nat → Bool
  | x :: xs, y :: ys => Nat.beq (x + y) m && okT m xs ys
  | _, _ => true
theorem okT_map {m : Nat} (f g : Nat → Nat) : ∀ l : List Nat, okT m (l.map f) (l.map g) = true ↔ ∀ j ∈ l, f j + g j = m
  | [] => by simp [okT]
  | x :: l => by
    show (Nat.beq (f x + g x) m && okT m (l.map f) (l.map g)) = true ↔ _
    rw [Bool.and_eq_true, okT_map f g l, Nat.beq_eq]
    simp
theorem cb_ok (n a b : Nat) : cb n a b = okT (2 * n) (T9 n a) (T9 n b) := by
  apply Bool.eq_iff_iff.mpr
  unfold cb T9
  rw [decide_eq_true_eq, ff_0 (by decide), okT_map]
  constructor
  · intro z j hj
    have h := z j (List.mem_range.mp hj)
    have h1 := oS_bd n a (j + 1)
    have h2 := oS_bd n b (j + 1)
    rw [Nat.add_comm 1 j] at h
    have h : oS n a (j + 1) + oS n b (j + 1) = 0 := h
    omega
  · intro z j hj
    have h := z j (List.mem_range.mpr hj)
    have h1 := oS_bd n a (j + 1)
    have h2 := oS_bd n b (j + 1)
    rw [Nat.add_comm 1 j]
    show oS n a (j + 1) + oS n b (j + 1) = 0
    omega
def rowL (n a : Nat) : Nat → List Nat
  | 0 => []
  | b + 1 => rowL n a b ++ (if cb n a b then [1000 * a + b] else [])
def allL (n N : Nat) : Nat → List Nat
  | 0 => []
  | a + 1 => allL n N a ++ rowL n a N
theorem rowL_f (n a : Nat) : ∀ b, rowL n a b = ((List.range b).filter (cb n a)).map (fun b => 1000 * a + b)
  | 0 => rfl
  | b + 1 => by
    rw [List.range_succ, List.filter_append, List.map_append, ← rowL_f n a b]
    show _ ++ _ = _ ++ _
    congr 1
    by_cases h : cb n a b = true
    · rw [if_pos h, List.filter_cons_of_pos h]; rfl
    · rw [if_neg h, List.filter_cons_of_neg h]; rfl
theorem allL_f (n N : Nat) : ∀ a, allL n N a = (List.range a).flatMap (fun a => rowL n a N)
  | 0 => rfl
  | a + 1 => by
    rw [List.range_succ, List.flatMap_append, ← allL_f n N a]
    show _ ++ _ = _ ++ _
    simp
def flat (m : Nat) (tab : List (Nat × List Nat)) : List Nat := tab.flatMap (fun p => (tab.filter (fun q => okT m p.2 q.2)).map (fun q => 1000 * p.1 + q.1))
theorem allL_flat {n N : Nat} {tab : List (Nat × List Nat)} (h : (List.range N).map (fun a => (a, T9 n a)) = tab) : allL n N N = flat (2 * n) tab := by
  subst h
  unfold flat
  rw [allL_f, List.flatMap_map]
  congr 1
  funext a
  rw [rowL_f, List.filter_map, List.map_map]
  have e : cb n a = ((fun q : Nat × List Nat => okT (2 * n) (a, T9 n a).2 q.2) ∘ fun a => (a, T9 n a)) := by
    funext b
    exact cb_ok n a b
  rw [e]
  rfl
theorem rowL_pre (n a : Nat) {b N : Nat} (h : b ≤ N) : rowL n a b <+: rowL n a N := by
  induction N with
  | zero => rw [show b = 0 by omega]; exact List.prefix_refl _
  | succ N ih =>
    by_cases e : b = N + 1
    · subst e; exact List.prefix_refl _
    · exact (ih (by omega)).trans (List.prefix_append _ _)
theorem allL_pre (n N : Nat) {a M : Nat} (h : a ≤ M) : allL n N a <+: allL n N M := by
  induction M with
  | zero => rw [show a = 0 by omega]; exact List.prefix_refl _
  | succ M ih =>
    by_cases e : a = M + 1
    · subst e; exact List.prefix_refl _
    · exact (ih (by omega)).trans (List.prefix_append _ _)
/-- the codes found ahead of (a, b) -/
def stL (n N a b : Nat) : List Nat := allL n N a ++ rowL n a b
theorem stL_pre (n N : Nat) {a b : Nat} (ha : a < N) (hb : b ≤ N) : stL n N a b <+: allL n N N := ((List.prefix_append_right_inj _).mpr (rowL_pre n a hb)).trans (allL_pre n N (show a + 1 ≤ N by omega))
theorem stL_y (n N a b : Nat) (h : cb n a b = true) : stL n N a (b + 1) = stL n N a b ++ [1000 * a + b] := by
  show _ ++ (_ ++ if _ then _ else _) = _
  rw [if_pos h, ← List.append_assoc]
  rfl
theorem stL_n (n N a b : Nat) (h : ¬ cb n a b = true) : stL n N a (b + 1) = stL n N a b := by
  show _ ++ (_ ++ if _ then _ else _) = _
  rw [if_neg h, List.append_nil]
  rfl
theorem stL_e (n N a : Nat) : stL n N a N = stL n N (a + 1) 0 := (List.append_nil _).symm
theorem stL_z (n N : Nat) : stL n N 0 0 = [] := rfl
theorem stL_all (n N : Nat) : stL n N N 0 = allL n N N := List.append_nil _
/-- the check's least ones, and the class's -/
def lsC (n c : Nat) : Bool := isLs n (c / 1000) (c % 1000)
def lsP (n a b w o : Nat) : Bool := decide (1000 * TWw n a w + TWw n b ((w &&& 4) ||| o) < 1000 * a + b) || decide (1000 * TWw n b ((w &&& 4) ||| o) + TWw n a w < 1000 * a + b)
def lsK (n c : Nat) : Bool := (List.range 8).all (fun w => (List.range 4).all (fun o => !lsP n (c / 1000) (c % 1000) w o))
def tab1 : List (Nat × List Nat) := [(0, []), (1, [])]
set_option maxHeartbeats 4000000 in
set_option maxRecDepth 100000 in
theorem tab1_ok : (List.range 2).map (fun a => (a, T9 1 a)) = tab1 := by decide +kernel
set_option maxHeartbeats 4000000 in
set_option maxRecDepth 100000 in
theorem tab1_q : (List.range 1).map (fun a => (a, T9 1 a)) = tab1.take 1 := by decide +kernel
set_option maxHeartbeats 4000000 in
set_option maxRecDepth 100000 in
theorem all1_ok : allL 1 2 2 = [0, 1, 1000, 1001] := (allL_flat tab1_ok).trans (by decide +kernel)
set_option maxHeartbeats 4000000 in
set_option maxRecDepth 100000 in
theorem qua1_ok : allL 1 1 1 = [0] := (allL_flat tab1_q).trans (by decide +kernel)
set_option maxHeartbeats 4000000 in
set_option maxRecDepth 100000 in
theorem lsC1_ok : ([0, 1, 1000, 1001] : List Nat).filter (lsC 1) = [0] := by decide +kernel
set_option maxHeartbeats 4000000 in
set_option maxRecDepth 100000 in
theorem lsK1_ok : ([0] : List Nat).filter (lsK 1) = [0] := by decide +kernel
def tab2 : List (Nat × List Nat) := [(0, [3]), (1, [1]), (2, [1]), (3, [3])]
set_option maxHeartbeats 4000000 in
set_option maxRecDepth 100000 in
theorem tab2_ok : (List.range 4).map (fun a => (a, T9 2 a)) = tab2 := by decide +kernel
set_option maxHeartbeats 4000000 in
set_option maxRecDepth 100000 in
theorem tab2_q : (List.range 2).map (fun a => (a, T9 2 a)) = tab2.take 2 := by decide +kernel
set_option maxHeartbeats 4000000 in
set_option maxRecDepth 100000 in
theorem all2_ok : allL 2 4 4 = [1, 2, 1000, 1003, 2000, 2003, 3001, 3002] := (allL_flat tab2_ok).trans (by decide +kernel)
set_option maxHeartbeats 4000000 in
set_option maxRecDepth 100000 in
theorem qua2_ok : allL 2 2 2 = [1, 1000] := (allL_flat tab2_q).trans (by decide +kernel)
set_option maxHeartbeats 4000000 in
set_option maxRecDepth 100000 in
theorem lsC2_ok : ([1, 2, 1000, 1003, 2000, 2003, 3001, 3002] : List Nat).filter (lsC 2) = [1] := by decide +kernel
set_option maxHeartbeats 4000000 in
set_option maxRecDepth 100000 in
theorem lsK2_ok : ([1, 1000] : List Nat).filter (lsK 2) = [1] := by decide +kernel
def tab3 : List (Nat × List Nat) := [(0, [5, 4]), (1, [3, 2]), (2, [1, 4]), (3, [3, 2]), (4, [3, 2]), (5, [1, 4]), (6, [3, 2]), (7, [5, 4])]
set_option maxHeartbeats 4000000 in
set_option maxRecDepth 100000 in
theorem tab3_ok : (List.range 8).map (fun a => (a, T9 3 a)) = tab3 := by decide +kernel
set_option maxHeartbeats 4000000 in
set_option maxRecDepth 100000 in
theorem tab3_q : (List.range 4).map (fun a => (a, T9 3 a)) = tab3.take 4 := by decide +kernel
set_option maxHeartbeats 4000000 in
set_option maxRecDepth 100000 in
theorem all3_ok : allL 3 8 8 = [] := (allL_flat tab3_ok).trans (by decide +kernel)
set_option maxHeartbeats 4000000 in
set_option maxRecDepth 100000 in
theorem qua3_ok : allL 3 4 4 = [] := (allL_flat tab3_q).trans (by decide +kernel)
set_option maxHeartbeats 4000000 in
set_option maxRecDepth 100000 in
theorem lsC3_ok : ([] : List Nat).filter (lsC 3) = [] := by decide +kernel
set_option maxHeartbeats 4000000 in
set_option maxRecDepth 100000 in
theorem lsK3_ok : ([] : List Nat).filter (lsK 3) = [] := by decide +kernel
def tab4 : List (Nat × List Nat) := [(0, [7, 6, 5]), (1, [5, 4, 3]), (2, [3, 4, 5]), (3, [5, 2, 3]), (4, [3, 4, 5]), (5, [1, 6, 3]), (6, [3, 2, 5]), (7, [5, 4, 3]), (8, [5, 4, 3]), (9, [3, 2, 5]), (10, [1, 6, 3]), (11, [3, 4, 5]), (12, [5, 2, 3]), (13, [3, 4, 5]), (14, [5, 4, 3]), (15, [7, 6, 5])]
set_option maxHeartbeats 4000000 in
set_option maxRecDepth 100000 in
theorem tab4_ok : (List.range 16).map (fun a => (a, T9 4 a)) = tab4 := by decide +kernel
set_option maxHeartbeats 4000000 in
set_option maxRecDepth 100000 in
theorem tab4_q : (List.range 8).map (fun a => (a, T9 4 a)) = tab4.take 8 := by decide +kernel
set_option maxHeartbeats 4000000 in
set_option maxRecDepth 100000 in
theorem all4_ok : allL 4 16 16 = [1002, 1004, 1011, 1013, 2001, 2007, 2008, 2014, 4001, 4007, 4008, 4014, 7002, 7004, 7011, 7013, 8002, 8004, 8011, 8013, 11001, 11007, 11008, 11014, 13001, 13007, 13008, 13014, 14002, 14004, 14011, 14013] := (allL_flat tab4_ok).trans (by decide +kernel)
set_option maxHeartbeats 4000000 in
set_option maxRecDepth 100000 in
theorem qua4_ok : allL 4 8 8 = [1002, 1004, 2001, 2007, 4001, 4007, 7002, 7004] := (allL_flat tab4_q).trans (by decide +kernel)
set_option maxHeartbeats 4000000 in
set_option maxRecDepth 100000 in
theorem lsC4_ok : ([1002, 1004, 1011, 1013, 2001, 2007, 2008, 2014, 4001, 4007, 4008, 4014, 7002, 7004, 7011, 7013, 8002, 8004, 8011, 8013, 11001, 11007, 11008, 11014, 13001, 13007, 13008, 13014, 14002, 14004, 14011, 14013] : List Nat).filter (lsC 4) = [1002] := by decide +kernel
set_option maxHeartbeats 4000000 in
set_option maxRecDepth 100000 in
theorem lsK4_ok : ([1002, 1004, 2001, 2007, 4001, 4007, 7002, 7004] : List Nat).filter (lsK 4) = [1002] := by decide +kernel
def tab5 : List (Nat × List Nat) := [(0, [9, 8, 7, 6]), (1, [7, 6, 5, 4]), (2, [5, 6, 5, 6]), (3, [7, 4, 3, 4]), (4, [5, 4, 7, 6]), (5, [3, 6, 5, 4]), (6, [5, 2, 5, 6]), (7, [7, 4, 3, 4]), (8, [5, 6, 5, 6]), (9, [3, 4, 7, 4]), (10, [1, 8, 3, 6]), (11, [3, 6, 5, 4]), (12, [5, 2, 5, 6]), (13, [3, 4, 7, 4]), (14, [5, 4, 3, 6]), (15, [7, 6, 5, 4]), (16, [7, 6, 5, 4]), (17, [5, 4, 3, 6]), (18, [3, 4, 7, 4]), (19, [5, 2, 5, 6]), (20, [3, 6, 5, 4]), (21, [1, 8, 3, 6]), (22, [3, 4, 7, 4]), (23, [5, 6, 5, 6]), (24, [7, 4, 3, 4]), (25, [5, 2, 5, 6]), (26, [3, 6, 5, 4]), (27, [5, 4, 7, 6]), (28, [7, 4, 3, 4]), (29, [5, 6, 5, 6]), (30, [7, 6, 5, 4]), (31, [9, 8, 7, 6])]
set_option maxHeartbeats 4000000 in
set_option maxRecDepth 100000 in
theorem tab5_ok : (List.range 32).map (fun a => (a, T9 5 a)) = tab5 := by decide +kernel
set_option maxHeartbeats 4000000 in
set_option maxRecDepth 100000 in
theorem tab5_q : (List.range 16).map (fun a => (a, T9 5 a)) = tab5.take 16 := by decide +kernel
set_option maxHeartbeats 4000000 in
set_option maxRecDepth 100000 in
theorem all5_ok : allL 5 32 32 = [] := (allL_flat tab5_ok).trans (by decide +kernel)
set_option maxHeartbeats 4000000 in
set_option maxRecDepth 100000 in
theorem qua5_ok : allL 5 16 16 = [] := (allL_flat tab5_q).trans (by decide +kernel)
set_option maxHeartbeats 4000000 in
set_option maxRecDepth 100000 in
theorem lsC5_ok : ([] : List Nat).filter (lsC 5) = [] := by decide +kernel
set_option maxHeartbeats 4000000 in
set_option maxRecDepth 100000 in
theorem lsK5_ok : ([] : List Nat).filter (lsK 5) = [] := by decide +kernel
def tab6 : List (Nat × List Nat) := [(0, [11, 10, 9, 8, 7]), (1, [9, 8, 7, 6, 5]), (2, [7, 8, 7, 6, 7]), (3, [9, 6, 5, 4, 5]), (4, [7, 6, 7, 8, 7]), (5, [5, 8, 5, 6, 5]), (6, [7, 4, 5, 6, 7]), (7, [9, 6, 3, 4, 5]), (8, [7, 6, 7, 8, 7]), (9, [5, 4, 9, 6, 5]), (10, [3, 8, 5, 6, 7]), (11, [5, 6, 7, 4, 5]), (12, [7, 2, 5, 8, 7]), (13, [5, 4, 7, 6, 5]), (14, [7, 4, 3, 6, 7]), (15, [9, 6, 5, 4, 5]), (16, [7, 8, 7, 6, 7]), (17, [5, 6, 5, 8, 5]), (18, [3, 6, 9, 4, 7]), (19, [5, 4, 7, 6, 5]), (20, [3, 8, 5, 6, 7]), (21, [1, 10, 3, 8, 5]), (22, [3, 6, 7, 4, 7]), (23, [5, 8, 5, 6, 5]), (24, [7, 4, 5, 6, 7]), (25, [5, 2, 7, 8, 5]), (26, [3, 6, 7, 4, 7]), (27, [5, 4, 9, 6, 5]), (28, [7, 4, 3, 6, 7]), (29, [5, 6, 5, 8, 5]), (30, [7, 6, 5, 4, 7]), (31, [9, 8, 7, 6, 5]), (32, [9, 8, 7, 6, 5]), (33, [7, 6, 5, 4, 7]), (34, [5, 6, 5, 8, 5]), (35, [7, 4, 3, 6, 7]), (36, [5, 4, 9, 6, 5]), (37, [3, 6, 7, 4, 7]), (38, [5, 2, 7, 8, 5]), (39, [7, 4, 5, 6, 7]), (40, [5, 8, 5, 6, 5]), (41, [3, 6, 7, 4, 7]), (42, [1, 10, 3, 8, 5]), (43, [3, 8, 5, 6, 7]), (44, [5, 4, 7, 6, 5]), (45, [3, 6, 9, 4, 7]), (46, [5, 6, 5, 8, 5]), (47, [7, 8, 7, 6, 7]), (48, [9, 6, 5, 4, 5]), (49, [7, 4, 3, 6, 7]), (50, [5, 4, 7, 6, 5]), (51, [7, 2, 5, 8, 7]), (52, [5, 6, 7, 4, 5]), (53, [3, 8, 5, 6, 7]), (54, [5, 4, 9, 6, 5]), (55, [7, 6, 7, 8, 7]), (56, [9, 6, 3, 4, 5]), (57, [7, 4, 5, 6, 7]), (58, [5, 8, 5, 6, 5]), (59, [7, 6, 7, 8, 7]), (60, [9, 6, 5, 4, 5]), (61, [7, 8, 7, 6, 7]), (62, [9, 8, 7, 6, 5]), (63, [11, 10, 9, 8, 7])]
set_option maxHeartbeats 4000000 in
set_option maxRecDepth 100000 in
theorem tab6_ok : (List.range 64).map (fun a => (a, T9 6 a)) = tab6 := by decide +kernel
set_option maxHeartbeats 4000000 in
set_option maxRecDepth 100000 in
theorem tab6_q : (List.range 32).map (fun a => (a, T9 6 a)) = tab6.take 32 := by decide +kernel
set_option maxHeartbeats 4000000 in
set_option maxRecDepth 100000 in
theorem all6_ok : allL 6 64 64 = [] := (allL_flat tab6_ok).trans (by decide +kernel)
set_option maxHeartbeats 4000000 in
set_option maxRecDepth 100000 in
theorem qua6_ok : allL 6 32 32 = [] := (allL_flat tab6_q).trans (by decide +kernel)
set_option maxHeartbeats 4000000 in
set_option maxRecDepth 100000 in
theorem lsC6_ok : ([] : List Nat).filter (lsC 6) = [] := by decide +kernel
set_option maxHeartbeats 4000000 in
set_option maxRecDepth 100000 in
theorem lsK6_ok : ([] : List Nat).filter (lsK 6) = [] := by decide +kernel
def tab7 : List (Nat × List Nat) := [(0, [13, 12, 11, 10, 9, 8]), (1, [11, 10, 9, 8, 7, 6]), (2, [9, 10, 9, 8, 7, 8]), (3, [11, 8, 7, 6, 5, 6]), (4, [9, 8, 9, 8, 9, 8]), (5, [7, 10, 7, 6, 7, 6]), (6, [9, 6, 7, 6, 7, 8]), (7, [11, 8, 5, 4, 5, 6]), (8, [9, 8, 7, 10, 9, 8]), (9, [7, 6, 9, 8, 7, 6]), (10, [5, 10, 5, 8, 7, 8]), (11, [7, 8, 7, 6, 5, 6]), (12, [9, 4, 5, 8, 9, 8]), (13, [7, 6, 7, 6, 7, 6]), (14, [9, 6, 3, 6, 7, 8]), (15, [11, 8, 5, 4, 5, 6]), (16, [9, 8, 9, 8, 9, 8]), (17, [7, 6, 7, 10, 7, 6]), (18, [5, 6, 11, 6, 7, 8]), (19, [7, 4, 9, 8, 5, 6]), (20, [5, 8, 7, 6, 9, 8]), (21, [3, 10, 5, 8, 7, 6]), (22, [5, 6, 9, 4, 7, 8]), (23, [7, 8, 7, 6, 5, 6]), (24, [9, 4, 5, 8, 9, 8]), (25, [7, 2, 7, 10, 7, 6]), (26, [5, 6, 7, 6, 7, 8]), (27, [7, 4, 9, 8, 5, 6]), (28, [9, 4, 3, 6, 9, 8]), (29, [7, 6, 5, 8, 7, 6]), (30, [9, 6, 5, 4, 7, 8]), (31, [11, 8, 7, 6, 5, 6]), (32, [9, 10, 9, 8, 7, 8]), (33, [7, 8, 7, 6, 9, 6]), (34, [5, 8, 7, 10, 5, 8]), (35, [7, 6, 5, 8, 7, 6]), (36, [5, 6, 11, 6, 7, 8]), (37, [3, 8, 9, 4, 9, 6]), (38, [5, 4, 9, 8, 5, 8]), (39, [7, 6, 7, 6, 7, 6]), (40, [5, 10, 5, 8, 7, 8]), (41, [3, 8, 7, 6, 9, 6]), (42, [1, 12, 3, 10, 5, 8]), (43, [3, 10, 5, 8, 7, 6]), (44, [5, 6, 7, 6, 7, 8]), (45, [3, 8, 9, 4, 9, 6]), (46, [5, 8, 5, 8, 5, 8]), (47, [7, 10, 7, 6, 7, 6]), (48, [9, 6, 7, 6, 7, 8]), (49, [7, 4, 5, 8, 9, 6]), (50, [5, 4, 9, 8, 5, 8]), (51, [7, 2, 7, 10, 7, 6]), (52, [5, 6, 9, 4, 7, 8]), (53, [3, 8, 7, 6, 9, 6]), (54, [5, 4, 11, 6, 5, 8]), (55, [7, 6, 9, 8, 7, 6]), (56, [9, 6, 3, 6, 7, 8]), (57, [7, 4, 5, 8, 9, 6]), (58, [5, 8, 5, 8, 5, 8]), (59, [7, 6, 7, 10, 7, 6]), (60, [9, 6, 5, 4, 7, 8]), (61, [7, 8, 7, 6, 9, 6]), (62, [9, 8, 7, 6, 5, 8]), (63, [11, 10, 9, 8, 7, 6]), (64, [11, 10, 9, 8, 7, 6]), (65, [9, 8, 7, 6, 5, 8]), (66, [7, 8, 7, 6, 9, 6]), (67, [9, 6, 5, 4, 7, 8]), (68, [7, 6, 7, 10, 7, 6]), (69, [5, 8, 5, 8, 5, 8]), (70, [7, 4, 5, 8, 9, 6]), (71, [9, 6, 3, 6, 7, 8]), (72, [7, 6, 9, 8, 7, 6]), (73, [5, 4, 11, 6, 5, 8]), (74, [3, 8, 7, 6, 9, 6]), (75, [5, 6, 9, 4, 7, 8]), (76, [7, 2, 7, 10, 7, 6]), (77, [5, 4, 9, 8, 5, 8]), (78, [7, 4, 5, 8, 9, 6]), (79, [9, 6, 7, 6, 7, 8]), (80, [7, 10, 7, 6, 7, 6]), (81, [5, 8, 5, 8, 5, 8]), (82, [3, 8, 9, 4, 9, 6]), (83, [5, 6, 7, 6, 7, 8]), (84, [3, 10, 5, 8, 7, 6]), (85, [1, 12, 3, 10, 5, 8]), (86, [3, 8, 7, 6, 9, 6]), (87, [5, 10, 5, 8, 7, 8]), (88, [7, 6, 7, 6, 7, 6]), (89, [5, 4, 9, 8, 5, 8]), (90, [3, 8, 9, 4, 9, 6]), (91, [5, 6, 11, 6, 7, 8]), (92, [7, 6, 5, 8, 7, 6]), (93, [5, 8, 7, 10, 5, 8]), (94, [7, 8, 7, 6, 9, 6]), (95, [9, 10, 9, 8, 7, 8]), (96, [11, 8, 7, 6, 5, 6]), (97, [9, 6, 5, 4, 7, 8]), (98, [7, 6, 5, 8, 7, 6]), (99, [9, 4, 3, 6, 9, 8]), (100, [7, 4, 9, 8, 5, 6]), (101, [5, 6, 7, 6, 7, 8]), (102, [7, 2, 7, 10, 7, 6]), (103, [9, 4, 5, 8, 9, 8]), (104, [7, 8, 7, 6, 5, 6]), (105, [5, 6, 9, 4, 7, 8]), (106, [3, 10, 5, 8, 7, 6]), (107, [5, 8, 7, 6, 9, 8]), (108, [7, 4, 9, 8, 5, 6]), (109, [5, 6, 11, 6, 7, 8]), (110, [7, 6, 7, 10, 7, 6]), (111, [9, 8, 9, 8, 9, 8]), (112, [11, 8, 5, 4, 5, 6]), (113, [9, 6, 3, 6, 7, 8]), (114, [7, 6, 7, 6, 7, 6]), (115, [9, 4, 5, 8, 9, 8]), (116, [7, 8, 7, 6, 5, 6]), (117, [5, 10, 5, 8, 7, 8]), (118, [7, 6, 9, 8, 7, 6]), (119, [9, 8, 7, 10, 9, 8]), (120, [11, 8, 5, 4, 5, 6]), (121, [9, 6, 7, 6, 7, 8]), (122, [7, 10, 7, 6, 7, 6]), (123, [9, 8, 9, 8, 9, 8]), (124, [11, 8, 7, 6, 5, 6]), (125, [9, 10, 9, 8, 7, 8]), (126, [11, 10, 9, 8, 7, 6]), (127, [13, 12, 11, 10, 9, 8])]
set_option maxHeartbeats 4000000 in
set_option maxRecDepth 100000 in
theorem tab7_ok : (List.range 128).map (fun a => (a, T9 7 a)) = tab7 := by decide +kernel
set_option maxHeartbeats 4000000 in
set_option maxRecDepth 100000 in
theorem tab7_q : (List.range 64).map (fun a => (a, T9 7 a)) = tab7.take 64 := by decide +kernel
set_option maxHeartbeats 4000000 in
set_option maxRecDepth 100000 in
theorem all7_ok : allL 7 128 128 = [] := (allL_flat tab7_ok).trans (by decide +kernel)
set_option maxHeartbeats 4000000 in
set_option maxRecDepth 100000 in
theorem qua7_ok : allL 7 64 64 = [] := (allL_flat tab7_q).trans (by decide +kernel)
set_option maxHeartbeats 4000000 in
set_option maxRecDepth 100000 in
theorem lsC7_ok : ([] : List Nat).filter (lsC 7) = [] := by decide +kernel
set_option maxHeartbeats 4000000 in
set_option maxRecDepth 100000 in
theorem lsK7_ok : ([] : List Nat).filter (lsK 7) = [] := by decide +kernel
def tab8 : List (Nat × List Nat) := [(0, [15, 14, 13, 12, 11, 10, 9]), (1, [13, 12, 11, 10, 9, 8, 7]), (2, [11, 12, 11, 10, 9, 8, 9]), (3, [13, 10, 9, 8, 7, 6, 7]), (4, [11, 10, 11, 10, 9, 10, 9]), (5, [9, 12, 9, 8, 7, 8, 7]), (6, [11, 8, 9, 8, 7, 8, 9]), (7, [13, 10, 7, 6, 5, 6, 7]), (8, [11, 10, 9, 10, 11, 10, 9]), (9, [9, 8, 11, 8, 9, 8, 7]), (10, [7, 12, 7, 8, 9, 8, 9]), (11, [9, 10, 9, 6, 7, 6, 7]), (12, [11, 6, 7, 8, 9, 10, 9]), (13, [9, 8, 9, 6, 7, 8, 7]), (14, [11, 8, 5, 6, 7, 8, 9]), (15, [13, 10, 7, 4, 5, 6, 7]), (16, [11, 10, 9, 10, 11, 10, 9]), (17, [9, 8, 7, 12, 9, 8, 7]), (18, [7, 8, 11, 8, 9, 8, 9]), (19, [9, 6, 9, 10, 7, 6, 7]), (20, [7, 10, 7, 8, 9, 10, 9]), (21, [5, 12, 5, 10, 7, 8, 7]), (22, [7, 8, 9, 6, 7, 8, 9]), (23, [9, 10, 7, 8, 5, 6, 7]), (24, [11, 6, 5, 8, 11, 10, 9]), (25, [9, 4, 7, 10, 9, 8, 7]), (26, [7, 8, 7, 6, 9, 8, 9]), (27, [9, 6, 9, 8, 7, 6, 7]), (28, [11, 6, 3, 6, 9, 10, 9]), (29, [9, 8, 5, 8, 7, 8, 7]), (30, [11, 8, 5, 4, 7, 8, 9]), (31, [13, 10, 7, 6, 5, 6, 7]), (32, [11, 10, 11, 10, 9, 10, 9]), (33, [9, 8, 9, 8, 11, 8, 7]), (34, [7, 8, 9, 12, 7, 8, 9]), (35, [9, 6, 7, 10, 9, 6, 7]), (36, [7, 6, 13, 8, 7, 10, 9]), (37, [5, 8, 11, 6, 9, 8, 7]), (38, [7, 4, 11, 10, 5, 8, 9]), (39, [9, 6, 9, 8, 7, 6, 7]), (40, [7, 10, 7, 8, 9, 10, 9]), (41, [5, 8, 9, 6, 11, 8, 7]), (42, [3, 12, 5, 10, 7, 8, 9]), (43, [5, 10, 7, 8, 9, 6, 7]), (44, [7, 6, 9, 6, 7, 10, 9]), (45, [5, 8, 11, 4, 9, 8, 7]), (46, [7, 8, 7, 8, 5, 8, 9]), (47, [9, 10, 9, 6, 7, 6, 7]), (48, [11, 6, 7, 8, 9, 10, 9]), (49, [9, 4, 5, 10, 11, 8, 7]), (50, [7, 4, 9, 10, 7, 8, 9]), (51, [9, 2, 7, 12, 9, 6, 7]), (52, [7, 6, 9, 6, 7, 10, 9]), (53, [5, 8, 7, 8, 9, 8, 7]), (54, [7, 4, 11, 8, 5, 8, 9]), (55, [9, 6, 9, 10, 7, 6, 7]), (56, [11, 6, 3, 6, 9, 10, 9]), (57, [9, 4, 5, 8, 11, 8, 7]), (58, [7, 8, 5, 8, 7, 8, 9]), (59, [9, 6, 7, 10, 9, 6, 7]), (60, [11, 6, 5, 4, 7, 10, 9]), (61, [9, 8, 7, 6, 9, 8, 7]), (62, [11, 8, 7, 6, 5, 8, 9]), (63, [13, 10, 9, 8, 7, 6, 7]), (64, [11, 12, 11, 10, 9, 8, 9]), (65, [9, 10, 9, 8, 7, 10, 7]), (66, [7, 10, 9, 8, 11, 6, 9]), (67, [9, 8, 7, 6, 9, 8, 7]), (68, [7, 8, 9, 12, 7, 8, 9]), (69, [5, 10, 7, 10, 5, 10, 7]), (70, [7, 6, 7, 10, 9, 6, 9]), (71, [9, 8, 5, 8, 7, 8, 7]), (72, [7, 8, 11, 8, 9, 8, 9]), (73, [5, 6, 13, 6, 7, 10, 7]), (74, [3, 10, 9, 6, 11, 6, 9]), (75, [5, 8, 11, 4, 9, 8, 7]), (76, [7, 4, 9, 10, 7, 8, 9]), (77, [5, 6, 11, 8, 5, 10, 7]), (78, [7, 6, 7, 8, 9, 6, 9]), (79, [9, 8, 9, 6, 7, 8, 7]), (80, [7, 12, 7, 8, 9, 8, 9]), (81, [5, 10, 5, 10, 7, 10, 7]), (82, [3, 10, 9, 6, 11, 6, 9]), (83, [5, 8, 7, 8, 9, 8, 7]), (84, [3, 12, 5, 10, 7, 8, 9]), (85, [1, 14, 3, 12, 5, 10, 7]), (86, [3, 10, 7, 8, 9, 6, 9]), (87, [5, 12, 5, 10, 7, 8, 7]), (88, [7, 8, 7, 6, 9, 8, 9]), (89, [5, 6, 9, 8, 7, 10, 7]), (90, [3, 10, 9, 4, 11, 6, 9]), (91, [5, 8, 11, 6, 9, 8, 7]), (92, [7, 8, 5, 8, 7, 8, 9]), (93, [5, 10, 7, 10, 5, 10, 7]), (94, [7, 10, 7, 6, 9, 6, 9]), (95, [9, 12, 9, 8, 7, 8, 7]), (96, [11, 8, 9, 8, 7, 8, 9]), (97, [9, 6, 7, 6, 9, 10, 7]), (98, [7, 6, 7, 10, 9, 6, 9]), (99, [9, 4, 5, 8, 11, 8, 7]), (100, [7, 4, 11, 10, 5, 8, 9]), (101, [5, 6, 9, 8, 7, 10, 7]), (102, [7, 2, 9, 12, 7, 6, 9]), (103, [9, 4, 7, 10, 9, 8, 7]), (104, [7, 8, 9, 6, 7, 8, 9]), (105, [5, 6, 11, 4, 9, 10, 7]), (106, [3, 10, 7, 8, 9, 6, 9]), (107, [5, 8, 9, 6, 11, 8, 7]), (108, [7, 4, 11, 8, 5, 8, 9]), (109, [5, 6, 13, 6, 7, 10, 7]), (110, [7, 6, 9, 10, 7, 6, 9]), (111, [9, 8, 11, 8, 9, 8, 7]), (112, [11, 8, 5, 6, 7, 8, 9]), (113, [9, 6, 3, 8, 9, 10, 7]), (114, [7, 6, 7, 8, 9, 6, 9]), (115, [9, 4, 5, 10, 11, 8, 7]), (116, [7, 8, 7, 8, 5, 8, 9]), (117, [5, 10, 5, 10, 7, 10, 7]), (118, [7, 6, 9, 10, 7, 6, 9]), (119, [9, 8, 7, 12, 9, 8, 7]), (120, [11, 8, 5, 4, 7, 8, 9]), (121, [9, 6, 7, 6, 9, 10, 7]), (122, [7, 10, 7, 6, 9, 6, 9]), (123, [9, 8, 9, 8, 11, 8, 7]), (124, [11, 8, 7, 6, 5, 8, 9]), (125, [9, 10, 9, 8, 7, 10, 7]), (126, [11, 10, 9, 8, 7, 6, 9]), (127, [13, 12, 11, 10, 9, 8, 7]), (128, [13, 12, 11, 10, 9, 8, 7]), (129, [11, 10, 9, 8, 7, 6, 9]), (130, [9, 10, 9, 8, 7, 10, 7]), (131, [11, 8, 7, 6, 5, 8, 9]), (132, [9, 8, 9, 8, 11, 8, 7]), (133, [7, 10, 7, 6, 9, 6, 9]), (134, [9, 6, 7, 6, 9, 10, 7]), (135, [11, 8, 5, 4, 7, 8, 9]), (136, [9, 8, 7, 12, 9, 8, 7]), (137, [7, 6, 9, 10, 7, 6, 9]), (138, [5, 10, 5, 10, 7, 10, 7]), (139, [7, 8, 7, 8, 5, 8, 9]), (140, [9, 4, 5, 10, 11, 8, 7]), (141, [7, 6, 7, 8, 9, 6, 9]), (142, [9, 6, 3, 8, 9, 10, 7]), (143, [11, 8, 5, 6, 7, 8, 9]), (144, [9, 8, 11, 8, 9, 8, 7]), (145, [7, 6, 9, 10, 7, 6, 9]), (146, [5, 6, 13, 6, 7, 10, 7]), (147, [7, 4, 11, 8, 5, 8, 9]), (148, [5, 8, 9, 6, 11, 8, 7]), (149, [3, 10, 7, 8, 9, 6, 9]), (150, [5, 6, 11, 4, 9, 10, 7]), (151, [7, 8, 9, 6, 7, 8, 9]), (152, [9, 4, 7, 10, 9, 8, 7]), (153, [7, 2, 9, 12, 7, 6, 9]), (154, [5, 6, 9, 8, 7, 10, 7]), (155, [7, 4, 11, 10, 5, 8, 9]), (156, [9, 4, 5, 8, 11, 8, 7]), (157, [7, 6, 7, 10, 9, 6, 9]), (158, [9, 6, 7, 6, 9, 10, 7]), (159, [11, 8, 9, 8, 7, 8, 9]), (160, [9, 12, 9, 8, 7, 8, 7]), (161, [7, 10, 7, 6, 9, 6, 9]), (162, [5, 10, 7, 10, 5, 10, 7]), (163, [7, 8, 5, 8, 7, 8, 9]), (164, [5, 8, 11, 6, 9, 8, 7]), (165, [3, 10, 9, 4, 11, 6, 9]), (166, [5, 6, 9, 8, 7, 10, 7]), (167, [7, 8, 7, 6, 9, 8, 9]), (168, [5, 12, 5, 10, 7, 8, 7]), (169, [3, 10, 7, 8, 9, 6, 9]), (170, [1, 14, 3, 12, 5, 10, 7]), (171, [3, 12, 5, 10, 7, 8, 9]), (172, [5, 8, 7, 8, 9, 8, 7]), (173, [3, 10, 9, 6, 11, 6, 9]), (174, [5, 10, 5, 10, 7, 10, 7]), (175, [7, 12, 7, 8, 9, 8, 9]), (176, [9, 8, 9, 6, 7, 8, 7]), (177, [7, 6, 7, 8, 9, 6, 9]), (178, [5, 6, 11, 8, 5, 10, 7]), (179, [7, 4, 9, 10, 7, 8, 9]), (180, [5, 8, 11, 4, 9, 8, 7]), (181, [3, 10, 9, 6, 11, 6, 9]), (182, [5, 6, 13, 6, 7, 10, 7]), (183, [7, 8, 11, 8, 9, 8, 9]), (184, [9, 8, 5, 8, 7, 8, 7]), (185, [7, 6, 7, 10, 9, 6, 9]), (186, [5, 10, 7, 10, 5, 10, 7]), (187, [7, 8, 9, 12, 7, 8, 9]), (188, [9, 8, 7, 6, 9, 8, 7]), (189, [7, 10, 9, 8, 11, 6, 9]), (190, [9, 10, 9, 8, 7, 10, 7]), (191, [11, 12, 11, 10, 9, 8, 9]), (192, [13, 10, 9, 8, 7, 6, 7]), (193, [11, 8, 7, 6, 5, 8, 9]), (194, [9, 8, 7, 6, 9, 8, 7]), (195, [11, 6, 5, 4, 7, 10, 9]), (196, [9, 6, 7, 10, 9, 6, 7]), (197, [7, 8, 5, 8, 7, 8, 9]), (198, [9, 4, 5, 8, 11, 8, 7]), (199, [11, 6, 3, 6, 9, 10, 9]), (200, [9, 6, 9, 10, 7, 6, 7]), (201, [7, 4, 11, 8, 5, 8, 9]), (202, [5, 8, 7, 8, 9, 8, 7]), (203, [7, 6, 9, 6, 7, 10, 9]), (204, [9, 2, 7, 12, 9, 6, 7]), (205, [7, 4, 9, 10, 7, 8, 9]), (206, [9, 4, 5, 10, 11, 8, 7]), (207, [11, 6, 7, 8, 9, 10, 9]), (208, [9, 10, 9, 6, 7, 6, 7]), (209, [7, 8, 7, 8, 5, 8, 9]), (210, [5, 8, 11, 4, 9, 8, 7]), (211, [7, 6, 9, 6, 7, 10, 9]), (212, [5, 10, 7, 8, 9, 6, 7]), (213, [3, 12, 5, 10, 7, 8, 9]), (214, [5, 8, 9, 6, 11, 8, 7]), (215, [7, 10, 7, 8, 9, 10, 9]), (216, [9, 6, 9, 8, 7, 6, 7]), (217, [7, 4, 11, 10, 5, 8, 9]), (218, [5, 8, 11, 6, 9, 8, 7]), (219, [7, 6, 13, 8, 7, 10, 9]), (220, [9, 6, 7, 10, 9, 6, 7]), (221, [7, 8, 9, 12, 7, 8, 9]), (222, [9, 8, 9, 8, 11, 8, 7]), (223, [11, 10, 11, 10, 9, 10, 9]), (224, [13, 10, 7, 6, 5, 6, 7]), (225, [11, 8, 5, 4, 7, 8, 9]), (226, [9, 8, 5, 8, 7, 8, 7]), (227, [11, 6, 3, 6, 9, 10, 9]), (228, [9, 6, 9, 8, 7, 6, 7]), (229, [7, 8, 7, 6, 9, 8, 9]), (230, [9, 4, 7, 10, 9, 8, 7]), (231, [11, 6, 5, 8, 11, 10, 9]), (232, [9, 10, 7, 8, 5, 6, 7]), (233, [7, 8, 9, 6, 7, 8, 9]), (234, [5, 12, 5, 10, 7, 8, 7]), (235, [7, 10, 7, 8, 9, 10, 9]), (236, [9, 6, 9, 10, 7, 6, 7]), (237, [7, 8, 11, 8, 9, 8, 9]), (238, [9, 8, 7, 12, 9, 8, 7]), (239, [11, 10, 9, 10, 11, 10, 9]), (240, [13, 10, 7, 4, 5, 6, 7]), (241, [11, 8, 5, 6, 7, 8, 9]), (242, [9, 8, 9, 6, 7, 8, 7]), (243, [11, 6, 7, 8, 9, 10, 9]), (244, [9, 10, 9, 6, 7, 6, 7]), (245, [7, 12, 7, 8, 9, 8, 9]), (246, [9, 8, 11, 8, 9, 8, 7]), (247, [11, 10, 9, 10, 11, 10, 9]), (248, [13, 10, 7, 6, 5, 6, 7]), (249, [11, 8, 9, 8, 7, 8, 9]), (250, [9, 12, 9, 8, 7, 8, 7]), (251, [11, 10, 11, 10, 9, 10, 9]), (252, [13, 10, 9, 8, 7, 6, 7]), (253, [11, 12, 11, 10, 9, 8, 9]), (254, [13, 12, 11, 10, 9, 8, 7]), (255, [15, 14, 13, 12, 11, 10, 9])]
set_option maxHeartbeats 4000000 in
set_option maxRecDepth 100000 in
theorem tab8_ok : (List.range 256).map (fun a => (a, T9 8 a)) = tab8 := by decide +kernel
set_option maxHeartbeats 4000000 in
set_option maxRecDepth 100000 in
theorem tab8_q : (List.range 128).map (fun a => (a, T9 8 a)) = tab8.take 128 := by decide +kernel
set_option maxHeartbeats 4000000 in
set_option maxRecDepth 100000 in
theorem all8_ok : allL 8 256 256 = [6053, 6083, 6172, 6202, 9058, 9092, 9163, 9197, 18029, 18071, 18184, 18226, 20027, 20039, 20216, 20228, 27020, 27040, 27215, 27235, 29018, 29072, 29183, 29237, 33046, 33116, 33139, 33209, 39020, 39040, 39215, 39235, 40027, 40039, 40216, 40228, 46033, 46123, 46132, 46222, 53006, 53096, 53159, 53249, 58009, 58111, 58144, 58246, 65078, 65114, 65141, 65177, 71018, 71072, 71183, 71237, 72029, 72071, 72184, 72226, 78065, 78125, 78130, 78190, 83006, 83096, 83159, 83249, 92009, 92111, 92144, 92246, 96053, 96083, 96172, 96202, 111058, 111092, 111163, 111197, 114065, 114125, 114130, 114190, 116033, 116123, 116132, 116222, 123046, 123116, 123139, 123209, 125078, 125114, 125141, 125177, 130078, 130114, 130141, 130177, 132046, 132116, 132139, 132209, 139033, 139123, 139132, 139222, 141065, 141125, 141130, 141190, 144058, 144092, 144163, 144197, 159053, 159083, 159172, 159202, 163009, 163111, 163144, 163246, 172006, 172096, 172159, 172249, 177065, 177125, 177130, 177190, 183029, 183071, 183184, 183226, 184018, 184072, 184183, 184237, 190078, 190114, 190141, 190177, 197009, 197111, 197144, 197246, 202006, 202096, 202159, 202249, 209033, 209123, 209132, 209222, 215027, 215039, 215216, 215228, 216020, 216040, 216215, 216235, 222046, 222116, 222139, 222209, 226018, 226072, 226183, 226237, 228020, 228040, 228215, 228235, 235027, 235039, 235216, 235228, 237029, 237071, 237184, 237226, 246058, 246092, 246163, 246197, 249053, 249083, 249172, 249202] := (allL_flat tab8_ok).trans (by decide +kernel)
set_option maxHeartbeats 4000000 in
set_option maxRecDepth 100000 in
theorem qua8_ok : allL 8 128 128 = [6053, 6083, 9058, 9092, 18029, 18071, 20027, 20039, 27020, 27040, 29018, 29072, 33046, 33116, 39020, 39040, 40027, 40039, 46033, 46123, 53006, 53096, 58009, 58111, 65078, 65114, 71018, 71072, 72029, 72071, 78065, 78125, 83006, 83096, 92009, 92111, 96053, 96083, 111058, 111092, 114065, 114125, 116033, 116123, 123046, 123116, 125078, 125114] := (allL_flat tab8_q).trans (by decide +kernel)
set_option maxHeartbeats 4000000 in
set_option maxRecDepth 100000 in
theorem lsC8_ok : ([6053, 6083, 6172, 6202, 9058, 9092, 9163, 9197, 18029, 18071, 18184, 18226, 20027, 20039, 20216, 20228, 27020, 27040, 27215, 27235, 29018, 29072, 29183, 29237, 33046, 33116, 33139, 33209, 39020, 39040, 39215, 39235, 40027, 40039, 40216, 40228, 46033, 46123, 46132, 46222, 53006, 53096, 53159, 53249, 58009, 58111, 58144, 58246, 65078, 65114, 65141, 65177, 71018, 71072, 71183, 71237, 72029, 72071, 72184, 72226, 78065, 78125, 78130, 78190, 83006, 83096, 83159, 83249, 92009, 92111, 92144, 92246, 96053, 96083, 96172, 96202, 111058, 111092, 111163, 111197, 114065, 114125, 114130, 114190, 116033, 116123, 116132, 116222, 123046, 123116, 123139, 123209, 125078, 125114, 125141, 125177, 130078, 130114, 130141, 130177, 132046, 132116, 132139, 132209, 139033, 139123, 139132, 139222, 141065, 141125, 141130, 141190, 144058, 144092, 144163, 144197, 159053, 159083, 159172, 159202, 163009, 163111, 163144, 163246, 172006, 172096, 172159, 172249, 177065, 177125, 177130, 177190, 183029, 183071, 183184, 183226, 184018, 184072, 184183, 184237, 190078, 190114, 190141, 190177, 197009, 197111, 197144, 197246, 202006, 202096, 202159, 202249, 209033, 209123, 209132, 209222, 215027, 215039, 215216, 215228, 216020, 216040, 216215, 216235, 222046, 222116, 222139, 222209, 226018, 226072, 226183, 226237, 228020, 228040, 228215, 228235, 235027, 235039, 235216, 235228, 237029, 237071, 237184, 237226, 246058, 246092, 246163, 246197, 249053, 249083, 249172, 249202] : List Nat).filter (lsC 8) = [6053, 9058, 18029, 20027, 33046] := by decide +kernel
set_option maxHeartbeats 4000000 in
set_option maxRecDepth 100000 in
theorem lsK8_ok : ([6053, 6083, 9058, 9092, 18029, 18071, 20027, 20039, 27020, 27040, 29018, 29072, 33046, 33116, 39020, 39040, 40027, 40039, 46033, 46123, 53006, 53096, 58009, 58111, 65078, 65114, 71018, 71072, 72029, 72071, 78065, 78125, 83006, 83096, 92009, 92111, 96053, 96083, 111058, 111092, 114065, 114125, 116033, 116123, 123046, 123116, 125078, 125114] : List Nat).filter (lsK 8) = [6053, 9058, 18029, 20027, 33046] := by decide +kernel
/-- all pairs of a length, the class's quarter, the least of each kind -/
abbrev aA (n : Nat) : List Nat := allL n (2 ^ n) (2 ^ n)
abbrev aQr (n : Nat) : List Nat := allL n (2 ^ (n - 1)) (2 ^ (n - 1))
abbrev aK (n : Nat) : List Nat := (aA n).filter (lsC n)
theorem pairs_all {n : Nat} (h : 1 ≤ n ∧ n ≤ 8) : 4 * (aQr n).length = (aA n).length ∧ (aQr n).filter (lsK n) = aK n ∧ (aK n).length ≤ 5 ∧ (aA n).length ≤ 192 ∧ (aA n).head? = (aK n).head? ∧ (∀ c ∈ aK n, c < 33047) ∧ (∀ c ∈ aA n, c < 256000) := by
  rcases (show n = 1 ∨ n = 2 ∨ n = 3 ∨ n = 4 ∨ n = 5 ∨ n = 6 ∨ n = 7 ∨ n = 8 by omega) with rfl | rfl | rfl | rfl | rfl | rfl | rfl | rfl
  · have e1 : aA 1 = _ := all1_ok
    have e2 : aQr 1 = _ := qua1_ok
    have e3 : aK 1 = _ := (congrArg (List.filter (lsC 1)) e1).trans lsC1_ok
    rw [e1, e2, e3, lsK1_ok]
    decide +kernel
  · have e1 : aA 2 = _ := all2_ok
    have e2 : aQr 2 = _ := qua2_ok
    have e3 : aK 2 = _ := (congrArg (List.filter (lsC 2)) e1).trans lsC2_ok
    rw [e1, e2, e3, lsK2_ok]
    decide +kernel
  · have e1 : aA 3 = _ := all3_ok
    have e2 : aQr 3 = _ := qua3_ok
    have e3 : aK 3 = _ := (congrArg (List.filter (lsC 3)) e1).trans lsC3_ok
    rw [e1, e2, e3, lsK3_ok]
    decide +kernel
  · have e1 : aA 4 = _ := all4_ok
    have e2 : aQr 4 = _ := qua4_ok
    have e3 : aK 4 = _ := (congrArg (List.filter (lsC 4)) e1).trans lsC4_ok
    rw [e1, e2, e3, lsK4_ok]
    decide +kernel
  · have e1 : aA 5 = _ := all5_ok
    have e2 : aQr 5 = _ := qua5_ok
    have e3 : aK 5 = _ := (congrArg (List.filter (lsC 5)) e1).trans lsC5_ok
    rw [e1, e2, e3, lsK5_ok]
    decide +kernel
  · have e1 : aA 6 = _ := all6_ok
    have e2 : aQr 6 = _ := qua6_ok
    have e3 : aK 6 = _ := (congrArg (List.filter (lsC 6)) e1).trans lsC6_ok
    rw [e1, e2, e3, lsK6_ok]
    decide +kernel
  · have e1 : aA 7 = _ := all7_ok
    have e2 : aQr 7 = _ := qua7_ok
    have e3 : aK 7 = _ := (congrArg (List.filter (lsC 7)) e1).trans lsC7_ok
    rw [e1, e2, e3, lsK7_ok]
    decide +kernel
  · have e1 : aA 8 = _ := all8_ok
    have e2 : aQr 8 = _ := qua8_ok
    have e3 : aK 8 = _ := (congrArg (List.filter (lsC 8)) e1).trans lsC8_ok
    rw [e1, e2, e3, lsK8_ok]
    decide +kernel
