/-! worlds whose numbers are integers -/
def cN (F : Nat → Nat) : Nat → Int := fun j => ((F j : Nat) : Int)
theorem cN_up (F : Nat → Nat) (k v : Nat) : va_up (cN F) k (v : Int) = cN (va_up F k v) := by
  funext j
  simp only [va_up, cN]
  by_cases h : j = k <;> simp [h]
abbrev oX (x : Nat) (a : Nat → Nat) (R : Int) : Nat × va_E := (x, .inr (5, [.ref (a 0), .ref (a 1), .ref (a 2), .ref (a 3), .ref (a 4), .ref (a 5), .int (zI R)]))
abbrev oM (y : Nat) (b : Nat → Nat) (many fm kn pm lm : Int) : Nat × va_E := (y, .inr (6, [.int (zI many), .ref (b 0), .ref (b 1), .ref (b 2), .ref (b 3), .ref (b 4), .ref (b 5), .int (zI fm), .int (zI kn), .int (zI pm), .ref (b 6), .int (zI lm), .ref (b 7), .ref (b 8), .ref (b 9), .ref (b 10)]))
abbrev aI (t : Nat → ClassId) (a n : Nat) (F : Nat → Int) : Nat × va_E := (a, .inl (t 0, n, .inl (zF F)))
abbrev aJ (t : Nat → ClassId) (a n : Nat) (G : Nat → Nat) : Nat × va_E := (a, .inl (t 1, n, .inr (.inl (lF G))))
abbrev aZ (t : Nat → ClassId) (a n : Nat) (F : Nat → Int) : Nat × va_E := (a, .inl (t 2, n, .inl (zF F)))
abbrev aQ (t : Nat → ClassId) (i a n : Nat) (q : Nat → Option Nat) : Nat × va_E := (a, .inl (t i, n, .inr (.inr (.inr (.inr q)))))
theorem va_P_iff {D : va_G} {cl : List vw_C} {ws : va_W} {H : Heap} : va_P D cl ws H ↔ ∀ q ∈ ws, va_at D cl q H :=
  ⟨fun h q hq => by obtain ⟨k, hk⟩ := List.getElem?_of_mem hq; exact h k q hk, fun h k q hk => h q (List.mem_of_getElem? hk)⟩
theorem va_D_iff {A : Nat → Prop} {ws : va_W} : va_D A ws ↔ (ws.map (·.1)).Nodup ∧ ∀ q ∈ ws, A q.1 := by
  constructor
  · intro h
    refine ⟨List.pairwise_iff_getElem.mpr (fun i j hi hj hij e => ?_), fun q hq => by obtain ⟨k, hk⟩ := List.getElem?_of_mem hq; exact h.2 k q hk⟩
    rw [List.length_map] at hi hj
    rw [List.getElem_map, List.getElem_map] at e
    have := h.1 i j ws[i] ws[j] (List.getElem?_eq_getElem hi) (List.getElem?_eq_getElem hj) e
    omega
  · rintro ⟨h1, h2⟩
    refine ⟨fun i j x y hi hj e => ?_, fun k q hk => h2 q (List.mem_of_getElem? hk)⟩
    obtain ⟨li, ei⟩ := List.getElem?_eq_some_iff.mp hi
    obtain ⟨lj, ej⟩ := List.getElem?_eq_some_iff.mp hj
    have hp := List.pairwise_iff_getElem.mp h1
    rcases Nat.lt_trichotomy i j with q | q | q
    · exact absurd (by rw [List.getElem_map, List.getElem_map, ei, ej]; exact e) (hp i j (by rw [List.length_map]; exact li) (by rw [List.length_map]; exact lj) q)
    · exact q
    · exact absurd (by rw [List.getElem_map, List.getElem_map, ei, ej]; exact e.symm) (hp j i (by rw [List.length_map]; exact lj) (by rw [List.length_map]; exact li) q)
theorem fr_P {D : va_G} {cl : List vw_C} {ws ws' : va_W} {H : Heap} (hp : ws.Perm ws') (h : va_P D cl ws H) : va_P D cl ws' H := va_P_iff.mpr (fun q hq => va_P_iff.mp h q (hp.mem_iff.mpr hq))
theorem fr_D {A : Nat → Prop} {ws ws' : va_W} (hp : ws.Perm ws') (h : va_D A ws) : va_D A ws' := by
  obtain ⟨h1, h2⟩ := va_D_iff.mp h
  exact va_D_iff.mpr ⟨(hp.map _).nodup h1, fun q hq => h2 q (hp.mem_iff.mpr hq)⟩
theorem fr_Pl {D : va_G} {cl : List vw_C} {w1 w2 : va_W} {H : Heap} (h : va_P D cl (w1 ++ w2) H) : va_P D cl w1 H := va_P_iff.mpr (fun q hq => va_P_iff.mp h q (List.mem_append_left _ hq))
theorem fr_Pr {D : va_G} {cl : List vw_C} {w1 w2 : va_W} {H : Heap} (h : va_P D cl (w1 ++ w2) H) : va_P D cl w2 H := va_P_iff.mpr (fun q hq => va_P_iff.mp h q (List.mem_append_right _ hq))
theorem fr_Dl {A : Nat → Prop} {w1 w2 : va_W} (h : va_D A (w1 ++ w2)) : va_D A w1 := by
  obtain ⟨h1, h2⟩ := va_D_iff.mp h
  rw [List.map_append] at h1
  exact va_D_iff.mpr ⟨(List.nodup_append.mp h1).1, fun q hq => h2 q (List.mem_append_left _ hq)⟩
theorem fr_free {A0 : Nat → Prop} {ws wc wr : va_W} {H0 H : Heap} {locs : List Loc} (hp : ws.Perm (wc ++ wr)) (hD : va_D A0 ws) (hS : va_S A0 H0 H locs) (hA : ∀ q, H0.size ≤ q → A0 q) : ∀ q, va_A wc H.size q → A0 q := by
  intro q h
  rcases h with ⟨k, e, h⟩ | h
  · exact (va_D_iff.mp (fr_D hp hD)).2 (q, e) (List.mem_append_left _ (List.mem_of_getElem? h))
  · exact hA q (Nat.le_trans hS.1 h)
/-- behind a call: the callee's new world, and the rest, which is unchanged -/
theorem fr_join {A0 : Nat → Prop} {D : va_G} {cl : List vw_C} {ws wc wr w1 : va_W} {H H1 : Heap} (hp : ws.Perm (wc ++ wr)) (hP : va_P D cl ws H) (hD : va_D A0 ws)
    (hk : ∀ q : Nat, q < H.size → ¬ va_A wc H.size q → H1[q]? = H[q]?) (hF : ∀ q, va_A wc H.size q → A0 q) (hP1 : va_P D cl w1 H1) (hD1 : va_D (va_A wc H.size) w1) : va_P D cl (w1 ++ wr) H1 ∧ va_D A0 (w1 ++ wr) := by
  have hP2 := fr_P hp hP
  have hD2 := va_D_iff.mp (fr_D hp hD)
  have apart : ∀ q ∈ wr, q.1 < H.size ∧ ¬ va_A wc H.size q.1 := by
    intro q hq
    have hl : q.1 < H.size := (va_P_iff.mp hP2 q (List.mem_append_right _ hq)).lt
    refine ⟨hl, fun h => ?_⟩
    rcases h with ⟨k, e, h⟩ | h
    · have hn := hD2.1
      rw [List.map_append] at hn
      exact (List.nodup_append.mp hn).2.2 q.1 (List.mem_map_of_mem (f := (·.1)) (List.mem_of_getElem? h)) q.1 (List.mem_map_of_mem (f := (·.1)) hq) rfl
    · omega
  obtain ⟨d1, d2⟩ := va_D_iff.mp hD1
  refine ⟨va_P_iff.mpr (fun q hq => ?_), va_D_iff.mpr ⟨?_, fun q hq => ?_⟩⟩
  · rcases List.mem_append.mp hq with h | h
    · exact va_P_iff.mp hP1 q h
    · obtain ⟨g1, g2⟩ := apart q h
      exact (va_P_iff.mp hP2 q (List.mem_append_right _ h)).kept (hk q.1 g1 g2)
  · rw [List.map_append]
    refine List.nodup_append.mpr ⟨d1, ?_, fun x hx y hy e => ?_⟩
    · have hn := hD2.1
      rw [List.map_append] at hn
      exact (List.nodup_append.mp hn).2.1
    · obtain ⟨q, hq, rfl⟩ := List.mem_map.mp hx
      obtain ⟨q2, hq2, rfl⟩ := List.mem_map.mp hy
      exact (apart q2 hq2).2 (by rw [← e]; exact d2 q hq)
  · rcases List.mem_append.mp hq with h | h
    · exact hF _ (d2 q h)
    · exact hD2.2 q (List.mem_append_right _ h)
theorem pl_id {α : Type} : ∀ (l : List α), (List.range l.length).filterMap (fun i => l[i]?) = l
  | [] => rfl
  | a :: l => by
    rw [List.length_cons, List.range_succ_eq_map, List.filterMap_cons, List.filterMap_map]
    simp only [List.getElem?_cons_zero]
    congr 1
    exact pl_id l
theorem pl_perm {α : Type} (pre : List α) (is js : List Nat) (h : (is ++ js).Perm (List.range pre.length)) : pre.Perm (is.filterMap (fun i => pre[i]?) ++ js.filterMap (fun i => pre[i]?)) := by
  rw [← List.filterMap_append]
  refine List.Perm.trans ?_ (h.filterMap _).symm
  rw [pl_id]
theorem ra_eq {U : State} {c1 c2 : ClassId} {ty : FieldType} (h1 : va_RA U c1 ty) (h2 : va_RA U c2 ty) : c1 = c2 := by
  cases ty with
  | object C =>
    obtain ⟨k1, o1, -, -, -, e1⟩ := h1
    obtain ⟨k2, o2, -, -, -, e2⟩ := h2
    exact Option.some.inj (e1.symm.trans e2)
  | _ => exact Option.some.inj (Eq.trans (Eq.symm h1) h2)
section ZW
variable {p : Program} {l : Launch} {e : Env} {R : Room} {s : State} {m : MethodId} {args : Array Value} {below : List Frame} {meth : Method} {c : Code} {H : Heap} {locs : List Loc} {cells slots : Nat} {Q : State → Prop}
variable {cc : ByteArray} {pc : Nat} {ls : Array Slot} {rest : List Value} {D : va_G} {cl : List vw_C} {A : Nat → Prop} {a : Nat} {tys : List (ClassId × FieldType)} {ws : va_W} {H0 : Heap}
theorem z_iald (hexec : p.tables.exec = Jvm.exec) (hb : c.code = cc) (hK : va_K D cl tys s) (hP : va_P D cl ws H) (q0 t0 : Nat) {cA : ClassId} {n : Nat} {G : Nat → Int} (ha : ws[q0]? = some (a, .inl (cA, n, .inl (zF G)))) (ht : tys[t0]? = some (cA, .int)) {v : Int} (i : Nat) (he : v = (i : Int)) (hi : i < n) (hn : n < 2147483648) (hdg : decode cc pc = .ok (.iaload, 1))
    (k : W p l e R s m args below meth c H locs cells slots Q (F0 m (pc + 1) ls (.int (zI (G i)) :: rest))) : W p l e R s m args below meth c H locs cells slots Q (F0 m (pc) ls (.int (zI v) :: .ref a :: rest)) := by
  subst he
  refine va_iald hexec hb hK hP q0 t0 ha ht (zI_in (by omega) hn) hdg ?_
  rw [zI_cl (by omega), Int.toNat_natCast]
  exact k
theorem z_zald (hexec : p.tables.exec = Jvm.exec) (hb : c.code = cc) (hK : va_K D cl tys s) (hP : va_P D cl ws H) (q0 t0 : Nat) {cA : ClassId} {n : Nat} {G : Nat → Int} (ha : ws[q0]? = some (a, .inl (cA, n, .inl (zF G)))) (ht : tys[t0]? = some (cA, .boolean)) {v : Int} (i : Nat) (he : v = (i : Int)) (hi : i < n) (hn : n < 2147483648) (hdg : decode cc pc = .ok (.baload, 1))
    (k : W p l e R s m args below meth c H locs cells slots Q (F0 m (pc + 1) ls (.int (zI (G i)) :: rest))) : W p l e R s m args below meth c H locs cells slots Q (F0 m (pc) ls (.int (zI v) :: .ref a :: rest)) := by
  subst he
  refine va_zald hexec hb hK hP q0 t0 ha ht (zI_in (by omega) hn) hdg ?_
  rw [zI_cl (by omega), Int.toNat_natCast]
  exact k
theorem l_lald (hexec : p.tables.exec = Jvm.exec) (hb : c.code = cc) (hK : va_K D cl tys s) (hP : va_P D cl ws H) (q0 t0 : Nat) {cA : ClassId} {n : Nat} {G : Nat → Nat} (ha : ws[q0]? = some (a, .inl (cA, n, .inr (.inl (lF G))))) (ht : tys[t0]? = some (cA, .long)) {v : Int} (i : Nat) (he : v = (i : Int)) (hi : i < n) (hn : n < 2147483648) (hdg : decode cc pc = .ok (.laload, 1))
    (k : W p l e R s m args below meth c H locs cells slots Q (F0 m (pc + 1) ls (.long (lN (G i)) :: rest))) : W p l e R s m args below meth c H locs cells slots Q (F0 m (pc) ls (.int (zI v) :: .ref a :: rest)) := by
  subst he
  refine va_lald hexec hb hK hP q0 t0 ha ht (zI_in (by omega) hn) hdg ?_
  rw [zI_cl (by omega), Int.toNat_natCast]
  exact k
theorem q_aald (hexec : p.tables.exec = Jvm.exec) (hb : c.code = cc) (hK : va_K D cl tys s) (hP : va_P D cl ws H) (q0 t0 : Nat) {cA : ClassId} {C : String} {n : Nat} {G : Nat → Option Nat} (ha : ws[q0]? = some (a, .inl (cA, n, .inr (.inr (.inr (.inr G)))))) (ht : tys[t0]? = some (cA, .object C)) {v : Int} (i : Nat) (he : v = (i : Int)) (hi : i < n) (hn : n < 2147483648) (hdg : decode cc pc = .ok (.aaload, 1))
    (k : W p l e R s m args below meth c H locs cells slots Q (F0 m (pc + 1) ls (va_rf (G i) :: rest))) : W p l e R s m args below meth c H locs cells slots Q (F0 m (pc) ls (.int (zI v) :: .ref a :: rest)) := by
  subst he
  refine va_aldq hexec hb hK hP q0 t0 ha ht (zI_in (by omega) hn) hdg ?_
  rw [zI_cl (by omega), Int.toNat_natCast]
  exact k
theorem z_iast (hexec : p.tables.exec = Jvm.exec) (hb : c.code = cc) (hK : va_K D cl tys s) (hP : va_P D cl ws H) (hD : va_D A ws) (hS : va_S A H0 H locs) (q0 t0 : Nat) {cA : ClassId} {n : Nat} {G : Nat → Int} (ha : ws[q0]? = some (a, .inl (cA, n, .inl (zF G)))) (ht : tys[t0]? = some (cA, .int)) {v : Int} (i : Nat) (he : v = (i : Int)) (hi : i < n) (hn : n < 2147483648) {x : Int} (hdg : decode cc pc = .ok (.iastore, 1))
    (k : ∀ (H1 : Heap) (locs1 : List Loc), va_P D cl (ws.set q0 (a, .inl (cA, n, .inl (zF (va_up G i x))))) H1 → va_D A (ws.set q0 (a, .inl (cA, n, .inl (zF (va_up G i x))))) → va_S A H0 H1 locs1 → W p l e R s m args below meth c H1 locs1 cells slots Q (F0 m (pc + 1) ls (rest))) : W p l e R s m args below meth c H locs cells slots Q (F0 m (pc) ls (.int (zI x) :: .int (zI v) :: .ref a :: rest)) := by
  subst he
  refine va_iast hexec hb hK hP hD hS q0 t0 ha ht (zI_in (by omega) hn) hdg (fun H1 locs1 hP1 hD1 hS1 => ?_)
  rw [zI_cl (by omega), Int.toNat_natCast, zF_up] at hP1 hD1
  exact k H1 locs1 hP1 hD1 hS1
theorem z_zast (hexec : p.tables.exec = Jvm.exec) (hb : c.code = cc) (hK : va_K D cl tys s) (hP : va_P D cl ws H) (hD : va_D A ws) (hS : va_S A H0 H locs) (q0 t0 : Nat) {cA : ClassId} {n : Nat} {G : Nat → Int} (ha : ws[q0]? = some (a, .inl (cA, n, .inl (zF G)))) (ht : tys[t0]? = some (cA, .boolean)) {v : Int} (i : Nat) (he : v = (i : Int)) (hi : i < n) (hn : n < 2147483648) {x : Int} (hx9 : vp_nar .boolean (zI x) = zI x) (hdg : decode cc pc = .ok (.bastore, 1))
    (k : ∀ (H1 : Heap) (locs1 : List Loc), va_P D cl (ws.set q0 (a, .inl (cA, n, .inl (zF (va_up G i x))))) H1 → va_D A (ws.set q0 (a, .inl (cA, n, .inl (zF (va_up G i x))))) → va_S A H0 H1 locs1 → W p l e R s m args below meth c H1 locs1 cells slots Q (F0 m (pc + 1) ls (rest))) : W p l e R s m args below meth c H locs cells slots Q (F0 m (pc) ls (.int (zI x) :: .int (zI v) :: .ref a :: rest)) := by
  subst he
  refine va_zast hexec hb hK hP hD hS q0 t0 ha ht (zI_in (by omega) hn) hdg (fun H1 locs1 hP1 hD1 hS1 => ?_)
  rw [zI_cl (by omega), Int.toNat_natCast, hx9, zF_up] at hP1 hD1
  exact k H1 locs1 hP1 hD1 hS1
theorem l_last (hexec : p.tables.exec = Jvm.exec) (hb : c.code = cc) (hK : va_K D cl tys s) (hP : va_P D cl ws H) (hD : va_D A ws) (hS : va_S A H0 H locs) (q0 t0 : Nat) {cA : ClassId} {n : Nat} {G : Nat → Nat} (ha : ws[q0]? = some (a, .inl (cA, n, .inr (.inl (lF G))))) (ht : tys[t0]? = some (cA, .long)) {v : Int} (i : Nat) (he : v = (i : Int)) (hi : i < n) (hn : n < 2147483648) {x : Nat} (hdg : decode cc pc = .ok (.lastore, 1))
    (k : ∀ (H1 : Heap) (locs1 : List Loc), va_P D cl (ws.set q0 (a, .inl (cA, n, .inr (.inl (lF (va_up G i x)))))) H1 → va_D A (ws.set q0 (a, .inl (cA, n, .inr (.inl (lF (va_up G i x)))))) → va_S A H0 H1 locs1 → W p l e R s m args below meth c H1 locs1 cells slots Q (F0 m (pc + 1) ls (rest))) : W p l e R s m args below meth c H locs cells slots Q (F0 m (pc) ls (.long (lN x) :: .int (zI v) :: .ref a :: rest)) := by
  subst he
  refine va_last hexec hb hK hP hD hS q0 t0 ha ht (zI_in (by omega) hn) hdg (fun H1 locs1 hP1 hD1 hS1 => ?_)
  rw [zI_cl (by omega), Int.toNat_natCast, lF_up] at hP1 hD1
  exact k H1 locs1 hP1 hD1 hS1
theorem q_aast (hexec : p.tables.exec = Jvm.exec) (hb : c.code = cc) (hK : va_K D cl tys s) (hP : va_P D cl ws H) (hD : va_D A ws) (hS : va_S A H0 H locs) (q0 t0 qk ci : Nat) {cA : ClassId} {r : vw_C} {n x : Nat} {vs : List Value} {G : Nat → Option Nat} (ha : ws[q0]? = some (a, .inl (cA, n, .inr (.inr (.inr (.inr G)))))) (ht : tys[t0]? = some (cA, .object r.1)) (hv : ws[qk]? = some (x, .inr (ci, vs))) (hc : cl[ci]? = some r) {v : Int} (i : Nat) (he : v = (i : Int)) (hi : i < n) (hn : n < 2147483648) (hdg : decode cc pc = .ok (.aastore, 1))
    (k : ∀ (H1 : Heap) (locs1 : List Loc), va_P D cl (ws.set q0 (a, .inl (cA, n, .inr (.inr (.inr (.inr (va_up G i (some x)))))))) H1 → va_D A (ws.set q0 (a, .inl (cA, n, .inr (.inr (.inr (.inr (va_up G i (some x)))))))) → va_S A H0 H1 locs1 → W p l e R s m args below meth c H1 locs1 cells slots Q (F0 m (pc + 1) ls (rest))) : W p l e R s m args below meth c H locs cells slots Q (F0 m (pc) ls (.ref x :: .int (zI v) :: .ref a :: rest)) := by
  subst he
  refine va_astq hexec hb hK hP hD hS q0 t0 qk ci ha ht hv hc (zI_in (by omega) hn) hdg (fun H1 locs1 hP1 hD1 hS1 => ?_)
  rw [zI_cl (by omega), Int.toNat_natCast] at hP1 hD1
  exact k H1 locs1 hP1 hD1 hS1
theorem z_newI (hexec : p.tables.exec = Jvm.exec) (hb : c.code = cc) (harr : (Cond.arrayClass .int).before args s = true) (hK : va_K D cl tys s) (hP : va_P D cl ws H) (hD : va_D A ws) (hS : va_S A H0 H locs) (hA : ∀ q, H0.size ≤ q → A q) (t0 : Nat) {cA : ClassId} (ht : tys[t0]? = some (cA, .int)) {v : Int} (n : Nat) (he : v = (n : Int)) (hn : n ≤ 65536) (hcells : cells + 1 ≤ R.cells) (hslots : slots + n ≤ R.slots) (hdg : decode cc pc = .ok (.newarray .int, 2))
    (k : ∀ (q : Nat) (H1 : Heap), va_P D cl (ws ++ [(q, .inl (cA, n, .inl (zF (fun _ => 0))))]) H1 → va_D A (ws ++ [(q, .inl (cA, n, .inl (zF (fun _ => 0))))]) → va_S A H0 H1 locs → W p l e R s m args below meth c H1 locs (cells + 1) (slots + n) Q (F0 m (pc + 2) ls (.ref q :: rest))) : W p l e R s m args below meth c H locs cells slots Q (F0 m (pc) ls (.int (zI v) :: rest)) := by
  subst he
  refine va_newa (atype := .int) (ty := .int) hexec hb harr rfl hK hP hD hS hA (a0 := (n, .inl (zF (fun _ => 0)))) (fun cA => rfl) (by rw [zI_lt0 (by omega)]; omega) (by rw [zI_cl (by omega), Int.toNat_natCast]) (by show n * 4 ≤ 536870912; omega) hcells hslots hdg (fun q cB H1 hK1 hP1 hD1 hS1 => ?_)
  have e1 := (hK.2 t0 _ ht).2
  have e2 := (hK1.2 tys.length (cB, .int) (by rw [List.getElem?_append_right (Nat.le_refl _), Nat.sub_self]; rfl)).2
  have e3 : cA = cB := ra_eq e1 e2
  subst e3
  exact k q H1 hP1 hD1 hS1
theorem z_newZ (hexec : p.tables.exec = Jvm.exec) (hb : c.code = cc) (harr : (Cond.arrayClass .boolean).before args s = true) (hK : va_K D cl tys s) (hP : va_P D cl ws H) (hD : va_D A ws) (hS : va_S A H0 H locs) (hA : ∀ q, H0.size ≤ q → A q) (t0 : Nat) {cA : ClassId} (ht : tys[t0]? = some (cA, .boolean)) {v : Int} (n : Nat) (he : v = (n : Int)) (hn : n ≤ 65536) (hcells : cells + 1 ≤ R.cells) (hslots : slots + n ≤ R.slots) (hdg : decode cc pc = .ok (.newarray .boolean, 2))
    (k : ∀ (q : Nat) (H1 : Heap), va_P D cl (ws ++ [(q, .inl (cA, n, .inl (zF (fun _ => 0))))]) H1 → va_D A (ws ++ [(q, .inl (cA, n, .inl (zF (fun _ => 0))))]) → va_S A H0 H1 locs → W p l e R s m args below meth c H1 locs (cells + 1) (slots + n) Q (F0 m (pc + 2) ls (.ref q :: rest))) : W p l e R s m args below meth c H locs cells slots Q (F0 m (pc) ls (.int (zI v) :: rest)) := by
  subst he
  refine va_newa (atype := .boolean) (ty := .boolean) hexec hb harr rfl hK hP hD hS hA (a0 := (n, .inl (zF (fun _ => 0)))) (fun cA => rfl) (by rw [zI_lt0 (by omega)]; omega) (by rw [zI_cl (by omega), Int.toNat_natCast]) (by show n * 1 ≤ 536870912; omega) hcells hslots hdg (fun q cB H1 hK1 hP1 hD1 hS1 => ?_)
  have e1 := (hK.2 t0 _ ht).2
  have e2 := (hK1.2 tys.length (cB, .boolean) (by rw [List.getElem?_append_right (Nat.le_refl _), Nat.sub_self]; rfl)).2
  have e3 : cA = cB := ra_eq e1 e2
  subst e3
  exact k q H1 hP1 hD1 hS1
theorem l_newJ (hexec : p.tables.exec = Jvm.exec) (hb : c.code = cc) (harr : (Cond.arrayClass .long).before args s = true) (hK : va_K D cl tys s) (hP : va_P D cl ws H) (hD : va_D A ws) (hS : va_S A H0 H locs) (hA : ∀ q, H0.size ≤ q → A q) (t0 : Nat) {cA : ClassId} (ht : tys[t0]? = some (cA, .long)) {v : Int} (n : Nat) (he : v = (n : Int)) (hn : n ≤ 65536) (hcells : cells + 1 ≤ R.cells) (hslots : slots + n ≤ R.slots) (hdg : decode cc pc = .ok (.newarray .long, 2))
    (k : ∀ (q : Nat) (H1 : Heap), va_P D cl (ws ++ [(q, .inl (cA, n, .inr (.inl (lF (fun _ => 0)))))]) H1 → va_D A (ws ++ [(q, .inl (cA, n, .inr (.inl (lF (fun _ => 0)))))]) → va_S A H0 H1 locs → W p l e R s m args below meth c H1 locs (cells + 1) (slots + n) Q (F0 m (pc + 2) ls (.ref q :: rest))) : W p l e R s m args below meth c H locs cells slots Q (F0 m (pc) ls (.int (zI v) :: rest)) := by
  subst he
  refine va_newa (atype := .long) (ty := .long) hexec hb harr rfl hK hP hD hS hA (a0 := (n, .inr (.inl (lF (fun _ => 0))))) (fun cA => rfl) (by rw [zI_lt0 (by omega)]; omega) (by rw [zI_cl (by omega), Int.toNat_natCast]) (by show n * 8 ≤ 536870912; omega) hcells hslots hdg (fun q cB H1 hK1 hP1 hD1 hS1 => ?_)
  have e1 := (hK.2 t0 _ ht).2
  have e2 := (hK1.2 tys.length (cB, .long) (by rw [List.getElem?_append_right (Nat.le_refl _), Nat.sub_self]; rfl)).2
  have e3 : cA = cB := ra_eq e1 e2
  subst e3
  exact k q H1 hP1 hD1 hS1
theorem q_newQ (hexec : p.tables.exec = Jvm.exec) (hb : c.code = cc) {own C : String} {index : Nat} (hown : s.vm.findClass own = some m.cls) (hclink : (Cond.classLink own index C).before args s = true) (hover : va_AO C s) (hK : va_K D cl tys s) (hP : va_P D cl ws H) (hD : va_D A ws) (hS : va_S A H0 H locs) (hA : ∀ q, H0.size ≤ q → A q) (t0 : Nat) {cA : ClassId} (ht : tys[t0]? = some (cA, .object C)) {v : Int} (n : Nat) (he : v = (n : Int)) (hn : n ≤ 65536) (hcells : cells + 1 ≤ R.cells) (hslots : slots + n ≤ R.slots) (hdg : decode cc pc = .ok (.anewarray index, 3))
    (k : ∀ (q : Nat) (H1 : Heap), va_P D cl (ws ++ [(q, .inl (cA, n, .inr (.inr (.inr (.inr (fun _ => none))))))]) H1 → va_D A (ws ++ [(q, .inl (cA, n, .inr (.inr (.inr (.inr (fun _ => none))))))]) → va_S A H0 H1 locs → W p l e R s m args below meth c H1 locs (cells + 1) (slots + n) Q (F0 m (pc + 3) ls (.ref q :: rest))) : W p l e R s m args below meth c H locs cells slots Q (F0 m (pc) ls (.int (zI v) :: rest)) := by
  subst he
  refine va_newq hexec hb hown hclink hover hK hP hD hS hA (by rw [zI_lt0 (by omega)]; omega) (by rw [zI_cl (by omega), Int.toNat_natCast]) (by omega) hcells hslots hdg (fun q cB H1 hK1 hP1 hD1 hS1 => ?_)
  have e1 := (hK.2 t0 _ ht).2
  have e2 := (hK1.2 tys.length (cB, .object C) (by rw [List.getElem?_append_right (Nat.le_refl _), Nat.sub_self]; rfl)).2
  have e3 : cA = cB := ra_eq e1 e2
  subst e3
  exact k q H1 hP1 hD1 hS1
theorem q_some {e1 : Option Nat} {x : Nat} (h : e1 = some x) (k : W p l e R s m args below meth c H locs cells slots Q (F0 m (pc) ls (.ref x :: rest))) : W p l e R s m args below meth c H locs cells slots Q (F0 m (pc) ls (va_rf e1 :: rest)) := by subst h; exact k
theorem q_none {e1 : Option Nat} (h : e1 = none) (k : W p l e R s m args below meth c H locs cells slots Q (F0 m (pc) ls (.null :: rest))) : W p l e R s m args below meth c H locs cells slots Q (F0 m (pc) ls (va_rf e1 :: rest)) := by subst h; exact k
end ZW
theorem arr_cg {cA : ClassId} {n : Nat} {C1 C2 : Nat → Int} (h : ∀ i, i < n → C1 i = C2 i) : vp_cell cA (n, .inl (zF C1)) = vp_cell cA (n, .inl (zF C2)) := by
  rw [vp_cell_i, vp_cell_i]
  unfold arrV
  congr 1
  apply Array.ext
  · simp
  · intro i h1 h2
    simp only [Array.getElem_ofFn]
    simp at h1
    simp only [zF]
    rw [h i h1]
/-- an array's contents under another name, where it matters -/
theorem P_cg {D : va_G} {cl : List vw_C} {ws : va_W} {H : Heap} (hP : va_P D cl ws H) (p : Nat) {a : Nat} {cA : ClassId} {n : Nat} {C1 C2 : Nat → Int} (hp : ws[p]? = some (a, .inl (cA, n, .inl (zF C1)))) (h : ∀ i, i < n → C1 i = C2 i) : va_P D cl (ws.set p (a, .inl (cA, n, .inl (zF C2)))) H := by
  have hl := (List.getElem?_eq_some_iff.mp hp).1
  intro k q hk
  by_cases hkp : k = p
  · subst hkp
    rw [List.getElem?_set_self hl] at hk
    cases hk
    have h1 := hP k _ hp
    show H[a]? = some (vp_cell cA (n, .inl (zF C2)))
    rw [← arr_cg h]
    exact h1
  · rw [List.getElem?_set_ne (Ne.symm hkp)] at hk
    exact hP k q hk
