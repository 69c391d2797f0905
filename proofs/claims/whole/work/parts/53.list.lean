/-! boxes and the list: what holds of the start -/
def jK (ad : Nat → Nat) (d0 tc : Nat) (A : Nat → Prop) (U : State) (H : Heap) : Prop := vb_C ad A U H ∧ va_Z "java/util/ArrayList" "DEFAULTCAPACITY_EMPTY_ELEMENTDATA" "[Ljava/lang/Object;" (.ref d0) A U H ∧ va_Z "java/lang/Integer$IntegerCache" "high" "I" (.int (zI (127))) A U H ∧ va_Z "java/lang/Integer$IntegerCache" "cache" "[Ljava/lang/Integer;" (.ref tc) A U H ∧ va_T (.object "java/lang/Integer") tc 256 (fun k => .ref (ad k)) A U H ∧ va_T (.object "java/lang/Object") d0 0 (fun _ => .null) A U H ∧ va_AO "java/lang/Object" U ∧ va_Nw (.castable "java/lang/Integer" "java/lang/Object") U
theorem cast_moved {C T : String} {u U : State} (hvm : u.vm.Alike U.vm) (h : va_Nw (.castable C T) u) : va_Nw (.castable C T) U := va_tabs rfl (rfl : (u.setVm U.vm).vm = U.vm) (by rw [Cond.castable_setVm hvm]; exact h)
theorem jK.moved {ad : Nat → Nat} {d0 tc : Nat} {A : Nat → Prop} {u U : State} {H : Heap} (hvm : u.vm.Alike U.vm) (h : jK ad d0 tc A u H) : jK ad d0 tc A U H := ⟨h.1.moved hvm, h.2.1.moved hvm, h.2.2.1.moved hvm, h.2.2.2.1.moved hvm, h.2.2.2.2.1.moved hvm, h.2.2.2.2.2.1.moved hvm, h.2.2.2.2.2.2.1.moved hvm, cast_moved hvm h.2.2.2.2.2.2.2⟩
theorem jK.kept {ad : Nat → Nat} {d0 tc : Nat} {A : Nat → Prop} {U : State} {H H1 : Heap} (h : jK ad d0 tc A U H) (hq : ∀ a : Nat, a < H.size → ¬ A a → H1[a]? = H[a]?) : jK ad d0 tc A U H1 := ⟨h.1.kept hq, h.2.1.kept hq, h.2.2.1.kept hq, h.2.2.2.1.kept hq, h.2.2.2.2.1.kept hq, h.2.2.2.2.2.1.kept hq, h.2.2.2.2.2.2⟩
theorem jK.narrow {ad : Nat → Nat} {d0 tc : Nat} {A B : Nat → Prop} {U : State} {H : Heap} (h : jK ad d0 tc A U H) (hAB : ∀ q, B q → A q) : jK ad d0 tc B U H := ⟨h.1.narrow hAB, h.2.1.narrow hAB, h.2.2.1.narrow hAB, h.2.2.2.1.narrow hAB, h.2.2.2.2.1.narrow hAB, h.2.2.2.2.2.1.narrow hAB, h.2.2.2.2.2.2⟩
abbrev PT (LP : List Nat) (pv : Nat → Int32) : va_W := va_pl LP (fun a => .inr (0, [.int (pv a)]))
section QJ
variable {p : Program} {l : Launch} {e : Env} {R : Room} {s : State} {m : MethodId} {args : Array Value} {below : List Frame} {meth : Method} {c : Code} {H : Heap} {locs : List Loc} {cells slots : Nat} {Q : State → Prop}
variable {cc : ByteArray} {pc : Nat} {ls : Array Slot} {rest : List Value} {D : va_G} {cl : List vw_C} {A : Nat → Prop} {a : Nat} {tys : List (ClassId × FieldType)} {ws : va_W} {H0 : Heap}
theorem q_tq (hexec : p.tables.exec = Jvm.exec) (hb : c.code = cc) {t n : Nat} {f : Nat → Value} {C : String} (hT : va_T (.object C) t n f A s s.heap) (hS : va_S A s.heap H locs) {v : Int} (i : Nat) (he : v = (i : Int)) (hi : i < n) (hn : n < 2147483648) (hdg : decode cc pc = .ok (.aaload, 1))
    (k : W p l e R s m args below meth c H locs cells slots Q (F0 m (pc + 1) ls (f i :: rest))) : W p l e R s m args below meth c H locs cells slots Q (F0 m (pc) ls (.int (zI v) :: .ref t :: rest)) := by
  subst he
  refine vb_tq hexec hb hT hS (zI_in (by omega) hn) (v := f i) ?_ hdg k
  rw [zI_cl (by omega), Int.toNat_natCast]
theorem q_astO (hexec : p.tables.exec = Jvm.exec) (hb : c.code = cc) (hK : va_K D cl tys s) (hP : va_P D cl ws H) (hD : va_D A ws) (hS : va_S A s.heap H locs) (q0 t0 : Nat) {E C : String} {cA : ClassId} {n x : Nat} {G : Nat → Option Nat} (ha : ws[q0]? = some (a, .inl (cA, n, .inr (.inr (.inr (.inr G)))))) (ht : tys[t0]? = some (cA, .object E)) (hO : va_O C x A s s.heap) (hca : va_Nw (.castable C E) s) {v : Int} (i : Nat) (he : v = (i : Int)) (hi : i < n) (hn : n < 2147483648) (hdg : decode cc pc = .ok (.aastore, 1))
    (k : ∀ (H1 : Heap) (locs1 : List Loc), va_P D cl (ws.set q0 (a, .inl (cA, n, .inr (.inr (.inr (.inr (va_up G i (some x)))))))) H1 → va_D A (ws.set q0 (a, .inl (cA, n, .inr (.inr (.inr (.inr (va_up G i (some x)))))))) → va_S A s.heap H1 locs1 → W p l e R s m args below meth c H1 locs1 cells slots Q (F0 m (pc + 1) ls (rest))) : W p l e R s m args below meth c H locs cells slots Q (F0 m (pc) ls (.ref x :: .int (zI v) :: .ref a :: rest)) := by
  subst he
  obtain ⟨cell, h1, h2, h3, -⟩ := hO.kept hS.2.1
  refine vb_astq hexec hb hK hP hD hS q0 t0 ha ht ⟨cell, h1, h2, h3⟩ (fun comp c0 f1 f2 => vb_asgC hca comp c0 f1 f2) (zI_in (by omega) hn) hdg (fun H1 locs1 hP1 hD1 hS1 => ?_)
  rw [zI_cl (by omega), Int.toNat_natCast] at hP1 hD1
  exact k H1 locs1 hP1 hD1 hS1
end QJ
theorem bx_O {D : va_G} {cl : List vw_C} {tys : List (ClassId × FieldType)} {ws wc : va_W} {A : Nat → Prop} {H : Heap} {s : State} {T : u_T} {n ci q0 y : Nat} {fs : List Value} (hK : va_K D cl tys s) (hP : va_P D cl ws H) (hD : va_D A ws) (hc : cl[ci]? = some ("java/lang/Integer", T, n)) (he : ws[q0]? = some (y, .inr (ci, fs))) (isC : List Nat) (hC : isC.map (fun i => ws[i]?) = wc.map some) (hni : ∀ i ∈ isC, i ≠ q0) : va_O "java/lang/Integer" y (va_A wc H.size) s H := by
  obtain ⟨cell, h1, h2, h3⟩ := va_recv hK hP hc he
  refine ⟨cell, h1, h2, h3, ?_⟩
  rintro (⟨k, e', hk⟩ | hz)
  · obtain ⟨i, hi, hw⟩ := va_in_of isC hC hk
    exact hni i (List.mem_of_getElem? hi) (hD.1 i q0 _ _ hw he rfl)
  · have := (Array.getElem?_eq_some_iff.mp h1).1
    omega
-- an empty constructor
set_option maxHeartbeats 4000000 in
set_option maxRecDepth 100000 in
theorem c_Jxd2413_init_da8c8 (l : Launch) (D : va_G) (t : Nat → ClassId) (sz : Nat) (q : Nat) : Met l yJxd2413_init_da8c8 wsJxd2413_init_da8c8 ({ frames := 1, cells := 0, slots := 0, locals := 20 }) (va_Pc [.ref q] (fun U => U.heap.size = sz ∧ va_P D vwCl ([]) U.heap ∧ va_K D vwCl (TY t) U ∧ va_D (fun _ => True) ([]))) (va_Qv (fun (u : Unit) => True) (fun (u : Unit) t1 => va_P D vwCl ([]) t1.heap ∧ va_K D vwCl (TY t) t1 ∧ va_D (va_A ([]) sz) ([])) (va_A ([]) sz)) 0 0 (va_A ([]) sz) := by
  refine Met.ofW (cc := cJxd2413_init_da8c8) (maxL := 1) (ret := none) (by decide) rfl ?_
  intro p e s m args below meth c s₁ B hml hv
  obtain ⟨rfl, hsz, hP, hK, hD0⟩ := hv
  have hx := B.exec
  have hb := B.bytes
  have hr := B.returns
  have hts := atoms_spec (ws := wsJxd2413_init_da8c8) B.pre
  have hown : s.vm.findClass RJxd2413 = some m.cls := findClass_of_methodNamed B.named
  have hlocks := B.notSynchronized
  have hin : meth.name = "<init>" := (name_of_methodNamed B.named B.method).1
  subst hsz
  have hD := hD0.self (sz := s.heap.size)
  generalize hAe : va_A ([]) s.heap.size = AA at hD ⊢
  have hA : ∀ q : Nat, s.heap.size ≤ q → AA q := fun q h => by rw [← hAe]; exact Or.inr h
  have hS : va_S AA s.heap s.heap [] := va_S.rf
  have hP : va_P D vwCl ([]) s.heap := hP
  have hl := lv_entry ([.ref q]) (n := 1) (Nat.le_of_ble_eq_true rfl)
  rw [lg_entry_eq]
  generalize (lg_sl ([.ref q]) ++ List.replicate (1 - (lg_sl ([.ref q])).length) Slot.unset).toArray = ls at hl ⊢
  have hl : lv_has ls 1 [(0, .ref q)] := hl
  refine lv_aload_n hx hb dJxd2413_init_da8c8_0 rfl (lv_at hl 0 rfl) ?_
  refine W.objInit hx hb hown (hts (.methodLink RJxd2413 1 objectInit) (by decide +kernel)) (hts (.instanceMethod objectInit) (by decide +kernel)) (hts (.code objectInit ⟨#[0xb1]⟩ 1 none) (by decide +kernel)) rfl (by rw [hml]; exact hl.1) rfl dJxd2413_init_da8c8_1 (Nat.le_of_ble_eq_true rfl) (Nat.le_of_ble_eq_true rfl) ?_
  refine W.eq (g2 := F0 m 4 ls []) rfl ?_
  exact W.vret hx hb hr (fun tq ht hW => ⟨⟨(), rfl, trivial, by rw [ht]; exact hP, va_K.moved hW.alike hK, hD⟩, hS.F ht⟩) hS.2.2 dJxd2413_init_da8c8_4

-- an empty constructor
set_option maxHeartbeats 4000000 in
set_option maxRecDepth 100000 in
theorem c_Jxa1e45_init_da8c8 (l : Launch) (D : va_G) (t : Nat → ClassId) (sz : Nat) (q : Nat) : Met l yJxa1e45_init_da8c8 wsJxa1e45_init_da8c8 ({ frames := 1, cells := 0, slots := 0, locals := 20 }) (va_Pc [.ref q] (fun U => U.heap.size = sz ∧ va_P D vwCl ([]) U.heap ∧ va_K D vwCl (TY t) U ∧ va_D (fun _ => True) ([]))) (va_Qv (fun (u : Unit) => True) (fun (u : Unit) t1 => va_P D vwCl ([]) t1.heap ∧ va_K D vwCl (TY t) t1 ∧ va_D (va_A ([]) sz) ([])) (va_A ([]) sz)) 0 0 (va_A ([]) sz) := by
  refine Met.ofW (cc := cJxa1e45_init_da8c8) (maxL := 1) (ret := none) (by decide) rfl ?_
  intro p e s m args below meth c s₁ B hml hv
  obtain ⟨rfl, hsz, hP, hK, hD0⟩ := hv
  have hx := B.exec
  have hb := B.bytes
  have hr := B.returns
  have hts := atoms_spec (ws := wsJxa1e45_init_da8c8) B.pre
  have hown : s.vm.findClass RJxa1e45 = some m.cls := findClass_of_methodNamed B.named
  have hlocks := B.notSynchronized
  have hin : meth.name = "<init>" := (name_of_methodNamed B.named B.method).1
  subst hsz
  have hD := hD0.self (sz := s.heap.size)
  generalize hAe : va_A ([]) s.heap.size = AA at hD ⊢
  have hA : ∀ q : Nat, s.heap.size ≤ q → AA q := fun q h => by rw [← hAe]; exact Or.inr h
  have hS : va_S AA s.heap s.heap [] := va_S.rf
  have hP : va_P D vwCl ([]) s.heap := hP
  have hl := lv_entry ([.ref q]) (n := 1) (Nat.le_of_ble_eq_true rfl)
  rw [lg_entry_eq]
  generalize (lg_sl ([.ref q]) ++ List.replicate (1 - (lg_sl ([.ref q])).length) Slot.unset).toArray = ls at hl ⊢
  have hl : lv_has ls 1 [(0, .ref q)] := hl
  refine lv_aload_n hx hb dJxa1e45_init_da8c8_0 rfl (lv_at hl 0 rfl) ?_
  refine W.objInit hx hb hown (hts (.methodLink RJxa1e45 1 objectInit) (by decide +kernel)) (hts (.instanceMethod objectInit) (by decide +kernel)) (hts (.code objectInit ⟨#[0xb1]⟩ 1 none) (by decide +kernel)) rfl (by rw [hml]; exact hl.1) rfl dJxa1e45_init_da8c8_1 (Nat.le_of_ble_eq_true rfl) (Nat.le_of_ble_eq_true rfl) ?_
  refine W.eq (g2 := F0 m 4 ls []) rfl ?_
  exact W.vret hx hb hr (fun tq ht hW => ⟨⟨(), rfl, trivial, by rw [ht]; exact hP, va_K.moved hW.alike hK, hD⟩, hS.F ht⟩) hS.2.2 dJxa1e45_init_da8c8_4

-- AbstractList()
set_option maxHeartbeats 4000000 in
set_option maxRecDepth 100000 in
theorem c_Jxc12de_init_da8c8 (l : Launch) (D : va_G) (t : Nat → ClassId) (sz : Nat) (li : Nat) : Met l yJxc12de_init_da8c8 wsJxc12de_init_da8c8 ({ frames := 2, cells := 0, slots := 0, locals := 40 }) (va_Pc [.ref li] (fun U => U.heap.size = sz ∧ va_P D vwCl ([(li, .inr (1, [.int (zI (0)), .null, .int (zI (0))]))]) U.heap ∧ va_K D vwCl (TY t) U ∧ va_D (fun _ => True) ([(li, .inr (1, [.int (zI (0)), .null, .int (zI (0))]))]))) (va_Qv (fun (u : Unit) => True) (fun (u : Unit) t1 => va_P D vwCl ([(li, .inr (1, [.int (zI (0)), .null, .int (zI (0))]))]) t1.heap ∧ va_K D vwCl (TY t) t1 ∧ va_D (va_A ([(li, .inr (1, [.int (zI (0)), .null, .int (zI (0))]))]) sz) ([(li, .inr (1, [.int (zI (0)), .null, .int (zI (0))]))])) (va_A ([(li, .inr (1, [.int (zI (0)), .null, .int (zI (0))]))]) sz)) 0 0 (va_A ([(li, .inr (1, [.int (zI (0)), .null, .int (zI (0))]))]) sz) := by
  refine Met.ofW (cc := cJxc12de_init_da8c8) (maxL := 1) (ret := none) (by decide) rfl ?_
  intro p e s m args below meth c s₁ B hml hv
  obtain ⟨rfl, hsz, hP, hK, hD0⟩ := hv
  have hx := B.exec
  have hb := B.bytes
  have hr := B.returns
  have hts := atoms_spec (ws := wsJxc12de_init_da8c8) B.pre
  have hown : s.vm.findClass RJxc12de = some m.cls := findClass_of_methodNamed B.named
  have hlocks := B.notSynchronized
  have hin : meth.name = "<init>" := (name_of_methodNamed B.named B.method).1
  subst hsz
  have hD := hD0.self (sz := s.heap.size)
  generalize hAe : va_A ([(li, .inr (1, [.int (zI (0)), .null, .int (zI (0))]))]) s.heap.size = AA at hD ⊢
  have hA : ∀ q : Nat, s.heap.size ≤ q → AA q := fun q h => by rw [← hAe]; exact Or.inr h
  have hS : va_S AA s.heap s.heap [] := va_S.rf
  have hP : va_P D vwCl ([(li, .inr (1, [.int (zI (0)), .null, .int (zI (0))]))]) s.heap := hP
  have hl := lv_entry ([.ref li]) (n := 1) (Nat.le_of_ble_eq_true rfl)
  rw [lg_entry_eq]
  generalize (lg_sl ([.ref li]) ++ List.replicate (1 - (lg_sl ([.ref li])).length) Slot.unset).toArray = ls at hl ⊢
  have hl : lv_has ls 1 [(0, .ref li)] := hl
  have iJx4a65c : ∀ w ∈ u_ws RJx4a65c TJx4a65c 3, w ∈ wsJxc12de_init_da8c8 := by decide +kernel
  refine lv_aload_n hx hb dJxc12de_init_da8c8_0 rfl (lv_at hl 0 rfl) ?_
  have hPc := hP.sub (ws' := []) [] rfl
  have hDc := hD.sub (ws' := []) [] (by decide) rfl
  have hFc := va_free (wc := []) hD hS hA [] rfl
  refine va_callv (va_runI (As := []) (rest := []) ⟨hx, hb, hml, hown, hts⟩ (c_Jxa1e45_init_da8c8 l D t s.heap.size li) (cwI 0 hts gJxc12de_init_da8c8_Jxa1e45_init_da8c8 rfl rfl rfl (hts (.initialized RJxa1e45) (by decide +kernel)) (hts (.methodLink RJxc12de 1 yJxa1e45_init_da8c8) (by decide +kernel)) (hts (.instanceMethod yJxa1e45_init_da8c8) (by decide +kernel)) rfl (by decide +kernel) ⟨Nat.le_of_ble_eq_true rfl, Nat.le_of_ble_eq_true rfl⟩) ⟨fun a U g mk q => by obtain ⟨q0, q1, qP, qK, qD⟩ := q; exact ⟨q0, q1, qP, va_K.moved (u := U) (U := U.calling g mk a) (Vm.Alike.refl U.vm) qK, qD⟩, fun U hU hW => ⟨rfl, by rw [hU], by rw [hU]; exact hPc, va_K.moved hW.alike hK, hDc.weaken (fun _ _ _ _ => trivial)⟩⟩ rfl rfl hl.1 rfl (lv_room (Nat.le_of_ble_eq_true rfl)) dJxc12de_init_da8c8_1 ⟨Nat.le_of_ble_eq_true rfl, Nat.le_of_ble_eq_true rfl⟩) hS (fun q _ h => hFc q h) hFc (fun u tq H1 locs ht hvm hr1 hB hz1 hk1 hS => ?_)
  obtain ⟨hP1, hK1, hD1⟩ := hB
  rw [ht] at hP1
  obtain ⟨hP, hD⟩ := va_join (wr := [(li, .inr (1, [.int (zI (0)), .null, .int (zI (0))]))]) (w1 := []) hP hD [] [0] rfl rfl (by decide) (by decide) hk1 hFc hP1 hD1
  generalize H1 = H at hP hS ⊢
  have hP : va_P D vwCl [(li, .inr (1, [.int (zI (0)), .null, .int (zI (0))]))] H := hP
  have hD : va_D AA [(li, .inr (1, [.int (zI (0)), .null, .int (zI (0))]))] := hD
  try dsimp only at hr1
  refine lv_aload_n hx hb dJxc12de_init_da8c8_4 rfl (lv_at hl 0 rfl) ?_
  refine lv_iconst (v := zI 0) hx hb dJxc12de_init_da8c8_5 rfl ?_
  refine va_put (D := D) (ci := 1) (v := .int (zI (0))) (ty := .int) (C := RJx4a65c) (T := TJx4a65c) (N := 3) hx hb hts iJx4a65c tyJx4a65c tyJx4a65c_ok nmJx4a65c hown hK hP hD hS 0 rfl rfl 0 (by decide) (hts (.fieldLink RJxc12de 7 "java/util/AbstractList" "modCount" "I") (by decide +kernel)) (fun _ h9 => h9) rfl (by decide +kernel) rfl rfl (Nat.le_of_ble_eq_true rfl) dJxc12de_init_da8c8_6 (fun H locs hP hD hS => ?_)
  have hP : va_P D vwCl [(li, .inr (1, [.int (zI (0)), .null, .int (zI (0))]))] H := hP
  have hD : va_D AA [(li, .inr (1, [.int (zI (0)), .null, .int (zI (0))]))] := hD
  exact W.vret hx hb hr (fun tq ht hW => ⟨⟨(), rfl, trivial, by rw [ht]; exact hP, va_K.moved hW.alike hK, hD⟩, hS.F ht⟩) hS.2.2 dJxc12de_init_da8c8_9

-- ArrayList()
set_option maxHeartbeats 4000000 in
set_option maxRecDepth 100000 in
theorem c_Jx4a65c_init_da8c8 (l : Launch) (D : va_G) (t : Nat → ClassId) (sz : Nat) (ad : Nat → Nat) (d0 tc : Nat) (li : Nat) : Met l yJx4a65c_init_da8c8 wsJx4a65c_init_da8c8 ({ frames := 3, cells := 0, slots := 0, locals := 60 }) (va_Pc [.ref li] (fun U => U.heap.size = sz ∧ va_P D vwCl ([(li, .inr (1, [.int (zI (0)), .null, .int (zI (0))]))]) U.heap ∧ va_K D vwCl (TY t) U ∧ va_D (fun _ => True) ([(li, .inr (1, [.int (zI (0)), .null, .int (zI (0))]))]) ∧ jK ad d0 tc (va_A ([(li, .inr (1, [.int (zI (0)), .null, .int (zI (0))]))]) sz) U U.heap)) (va_Qv (fun (u : Unit) => True) (fun (u : Unit) t1 => va_P D vwCl ([(li, .inr (1, [.int (zI (0)), .ref d0, .int (zI (0))]))]) t1.heap ∧ va_K D vwCl (TY t) t1 ∧ va_D (va_A ([(li, .inr (1, [.int (zI (0)), .null, .int (zI (0))]))]) sz) ([(li, .inr (1, [.int (zI (0)), .ref d0, .int (zI (0))]))])) (va_A ([(li, .inr (1, [.int (zI (0)), .null, .int (zI (0))]))]) sz)) 0 0 (va_A ([(li, .inr (1, [.int (zI (0)), .null, .int (zI (0))]))]) sz) := by
  refine Met.ofW (cc := cJx4a65c_init_da8c8) (maxL := 1) (ret := none) (by decide) rfl ?_
  intro p e s m args below meth c s₁ B hml hv
  obtain ⟨rfl, hsz, hP, hK, hD0, hJ⟩ := hv
  have hx := B.exec
  have hb := B.bytes
  have hr := B.returns
  have hts := atoms_spec (ws := wsJx4a65c_init_da8c8) B.pre
  have hown : s.vm.findClass RJx4a65c = some m.cls := findClass_of_methodNamed B.named
  have hlocks := B.notSynchronized
  have hin : meth.name = "<init>" := (name_of_methodNamed B.named B.method).1
  subst hsz
  have hD := hD0.self (sz := s.heap.size)
  generalize hAe : va_A ([(li, .inr (1, [.int (zI (0)), .null, .int (zI (0))]))]) s.heap.size = AA at hD hJ ⊢
  have hA : ∀ q : Nat, s.heap.size ≤ q → AA q := fun q h => by rw [← hAe]; exact Or.inr h
  have hS : va_S AA s.heap s.heap [] := va_S.rf
  have hP : va_P D vwCl ([(li, .inr (1, [.int (zI (0)), .null, .int (zI (0))]))]) s.heap := hP
  have hl := lv_entry ([.ref li]) (n := 1) (Nat.le_of_ble_eq_true rfl)
  rw [lg_entry_eq]
  generalize (lg_sl ([.ref li]) ++ List.replicate (1 - (lg_sl ([.ref li])).length) Slot.unset).toArray = ls at hl ⊢
  have hl : lv_has ls 1 [(0, .ref li)] := hl
  have iJx4a65c : ∀ w ∈ u_ws RJx4a65c TJx4a65c 3, w ∈ wsJx4a65c_init_da8c8 := by decide +kernel
  refine lv_aload_n hx hb dJx4a65c_init_da8c8_0 rfl (lv_at hl 0 rfl) ?_
  have hPc := hP.sub (ws' := [(li, .inr (1, [.int (zI (0)), .null, .int (zI (0))]))]) [0] rfl
  have hDc := hD.sub (ws' := [(li, .inr (1, [.int (zI (0)), .null, .int (zI (0))]))]) [0] (by decide) rfl
  have hFc := va_free (wc := [(li, .inr (1, [.int (zI (0)), .null, .int (zI (0))]))]) hD hS hA [0] rfl
  refine va_callv (va_runI (As := []) (rest := []) ⟨hx, hb, hml, hown, hts⟩ (c_Jxc12de_init_da8c8 l D t s.heap.size li) (cwI 0 hts gJx4a65c_init_da8c8_Jxc12de_init_da8c8 rfl rfl rfl (hts (.initialized RJxc12de) (by decide +kernel)) (hts (.methodLink RJx4a65c 1 yJxc12de_init_da8c8) (by decide +kernel)) (hts (.instanceMethod yJxc12de_init_da8c8) (by decide +kernel)) rfl (by decide +kernel) ⟨Nat.le_of_ble_eq_true rfl, Nat.le_of_ble_eq_true rfl⟩) ⟨fun a U g mk q => by obtain ⟨q0, q1, qP, qK, qD⟩ := q; exact ⟨q0, q1, qP, va_K.moved (u := U) (U := U.calling g mk a) (Vm.Alike.refl U.vm) qK, qD⟩, fun U hU hW => ⟨rfl, by rw [hU], by rw [hU]; exact hPc, va_K.moved hW.alike hK, hDc.weaken (fun _ _ _ _ => trivial)⟩⟩ rfl rfl hl.1 rfl (lv_room (Nat.le_of_ble_eq_true rfl)) dJx4a65c_init_da8c8_1 ⟨Nat.le_of_ble_eq_true rfl, Nat.le_of_ble_eq_true rfl⟩) hS (fun q _ h => hFc q h) hFc (fun u tq H1 locs ht hvm hr1 hB hz1 hk1 hS => ?_)
  obtain ⟨hP1, hK1, hD1⟩ := hB
  rw [ht] at hP1
  obtain ⟨hP, hD⟩ := va_join (wr := []) (w1 := [(li, .inr (1, [.int (zI (0)), .null, .int (zI (0))]))]) hP hD [0] [] rfl rfl (by decide) (by decide) hk1 hFc hP1 hD1
  generalize H1 = H at hP hS ⊢
  have hP : va_P D vwCl [(li, .inr (1, [.int (zI (0)), .null, .int (zI (0))]))] H := hP
  have hD : va_D AA [(li, .inr (1, [.int (zI (0)), .null, .int (zI (0))]))] := hD
  try dsimp only at hr1
  refine lv_aload_n hx hb dJx4a65c_init_da8c8_4 rfl (lv_at hl 0 rfl) ?_
  refine va_gets (v := .ref d0) hx hb hJ.2.1 hS hown (hts (.fieldLink RJx4a65c 39 "java/util/ArrayList" "DEFAULTCAPACITY_EMPTY_ELEMENTDATA" "[Ljava/lang/Object;") (by decide +kernel)) (fun _ h9 => h9) dJx4a65c_init_da8c8_5 ?_
  refine va_put (D := D) (ci := 1) (v := .ref d0) (ty := .array (.object "java/lang/Object")) (C := RJx4a65c) (T := TJx4a65c) (N := 3) hx hb hts iJx4a65c tyJx4a65c tyJx4a65c_ok nmJx4a65c hown hK hP hD hS 0 rfl rfl 1 (by decide) (hts (.fieldLink RJx4a65c 9 "java/util/ArrayList" "elementData" "[Ljava/lang/Object;") (by decide +kernel)) (fun _ h9 => h9) rfl (by decide +kernel) rfl rfl (Nat.le_of_ble_eq_true rfl) dJx4a65c_init_da8c8_8 (fun H locs hP hD hS => ?_)
  have hP : va_P D vwCl [(li, .inr (1, [.int (zI (0)), .ref d0, .int (zI (0))]))] H := hP
  have hD : va_D AA [(li, .inr (1, [.int (zI (0)), .ref d0, .int (zI (0))]))] := hD
  exact W.vret hx hb hr (fun tq ht hW => ⟨⟨(), rfl, trivial, by rw [ht]; exact hP, va_K.moved hW.alike hK, hD⟩, hS.F ht⟩) hS.2.2 dJx4a65c_init_da8c8_11

-- Integer(v)
set_option maxHeartbeats 4000000 in
set_option maxRecDepth 100000 in
theorem c_J6_init_d00df (l : Launch) (D : va_G) (t : Nat → ClassId) (sz : Nat) (q : Nat) (v : Int) : Met l yJ6_init_d00df wsJ6_init_d00df ({ frames := 2, cells := 0, slots := 0, locals := 40 }) (va_Pc [.ref q, .int (zI (v))] (fun U => U.heap.size = sz ∧ va_P D vwCl ([(q, .inr (0, [.int (zI (0))]))]) U.heap ∧ va_K D vwCl (TY t) U ∧ va_D (fun _ => True) ([(q, .inr (0, [.int (zI (0))]))]))) (va_Qv (fun (u : Unit) => True) (fun (u : Unit) t1 => va_P D vwCl ([(q, .inr (0, [.int (zI (v))]))]) t1.heap ∧ va_K D vwCl (TY t) t1 ∧ va_D (va_A ([(q, .inr (0, [.int (zI (0))]))]) sz) ([(q, .inr (0, [.int (zI (v))]))])) (va_A ([(q, .inr (0, [.int (zI (0))]))]) sz)) 0 0 (va_A ([(q, .inr (0, [.int (zI (0))]))]) sz) := by
  refine Met.ofW (cc := cJ6_init_d00df) (maxL := 2) (ret := none) (by decide) rfl ?_
  intro p e s m args below meth c s₁ B hml hv
  obtain ⟨rfl, hsz, hP, hK, hD0⟩ := hv
  have hx := B.exec
  have hb := B.bytes
  have hr := B.returns
  have hts := atoms_spec (ws := wsJ6_init_d00df) B.pre
  have hown : s.vm.findClass RJ6 = some m.cls := findClass_of_methodNamed B.named
  have hlocks := B.notSynchronized
  have hin : meth.name = "<init>" := (name_of_methodNamed B.named B.method).1
  subst hsz
  have hD := hD0.self (sz := s.heap.size)
  generalize hAe : va_A ([(q, .inr (0, [.int (zI (0))]))]) s.heap.size = AA at hD ⊢
  have hA : ∀ q : Nat, s.heap.size ≤ q → AA q := fun q h => by rw [← hAe]; exact Or.inr h
  have hS : va_S AA s.heap s.heap [] := va_S.rf
  have hP : va_P D vwCl ([(q, .inr (0, [.int (zI (0))]))]) s.heap := hP
  have hl := lv_entry ([.ref q, .int (zI (v))]) (n := 2) (Nat.le_of_ble_eq_true rfl)
  rw [lg_entry_eq]
  generalize (lg_sl ([.ref q, .int (zI (v))]) ++ List.replicate (2 - (lg_sl ([.ref q, .int (zI (v))])).length) Slot.unset).toArray = ls at hl ⊢
  have hl : lv_has ls 2 [(0, .ref q), (1, .int (zI (v)))] := hl
  have iJ6 : ∀ w ∈ u_ws RJ6 TJ6 1, w ∈ wsJ6_init_d00df := by decide +kernel
  refine lv_aload_n hx hb dJ6_init_d00df_0 rfl (lv_at hl 0 rfl) ?_
  have hPc := hP.sub (ws' := []) [] rfl
  have hDc := hD.sub (ws' := []) [] (by decide) rfl
  have hFc := va_free (wc := []) hD hS hA [] rfl
  refine va_callv (va_runI (As := []) (rest := []) ⟨hx, hb, hml, hown, hts⟩ (c_Jxd2413_init_da8c8 l D t s.heap.size q) (cwI 0 hts gJ6_init_d00df_Jxd2413_init_da8c8 rfl rfl rfl (hts (.initialized RJxd2413) (by decide +kernel)) (hts (.methodLink RJ6 202 yJxd2413_init_da8c8) (by decide +kernel)) (hts (.instanceMethod yJxd2413_init_da8c8) (by decide +kernel)) rfl (by decide +kernel) ⟨Nat.le_of_ble_eq_true rfl, Nat.le_of_ble_eq_true rfl⟩) ⟨fun a U g mk q => by obtain ⟨q0, q1, qP, qK, qD⟩ := q; exact ⟨q0, q1, qP, va_K.moved (u := U) (U := U.calling g mk a) (Vm.Alike.refl U.vm) qK, qD⟩, fun U hU hW => ⟨rfl, by rw [hU], by rw [hU]; exact hPc, va_K.moved hW.alike hK, hDc.weaken (fun _ _ _ _ => trivial)⟩⟩ rfl rfl hl.1 rfl (lv_room (Nat.le_of_ble_eq_true rfl)) dJ6_init_d00df_1 ⟨Nat.le_of_ble_eq_true rfl, Nat.le_of_ble_eq_true rfl⟩) hS (fun q _ h => hFc q h) hFc (fun u tq H1 locs ht hvm hr1 hB hz1 hk1 hS => ?_)
  obtain ⟨hP1, hK1, hD1⟩ := hB
  rw [ht] at hP1
  obtain ⟨hP, hD⟩ := va_join (wr := [(q, .inr (0, [.int (zI (0))]))]) (w1 := []) hP hD [] [0] rfl rfl (by decide) (by decide) hk1 hFc hP1 hD1
  generalize H1 = H at hP hS ⊢
  have hP : va_P D vwCl [(q, .inr (0, [.int (zI (0))]))] H := hP
  have hD : va_D AA [(q, .inr (0, [.int (zI (0))]))] := hD
  try dsimp only at hr1
  refine lv_aload_n hx hb dJ6_init_d00df_4 rfl (lv_at hl 0 rfl) ?_
  refine lv_iload_n hx hb dJ6_init_d00df_5 rfl (lv_at hl 1 rfl) ?_
  refine va_putF (D := D) (ci := 0) (v := .int (zI (v))) (ty := .int) (C := RJ6) (T := TJ6) (N := 1) hx hb hts iJ6 tyJ6 tyJ6_ok nmJ6 hown hK hP hD hS 0 rfl rfl 0 (by decide) (hts (.fieldLink RJ6 205 "java/lang/Integer" "value" "I") (by decide +kernel)) (fun _ h9 => h9) rfl hin rfl (by decide +kernel) rfl rfl (Nat.le_of_ble_eq_true rfl) dJ6_init_d00df_6 (fun H locs hP hD hS => ?_)
  have hP : va_P D vwCl [(q, .inr (0, [.int (zI (v))]))] H := hP
  have hD : va_D AA [(q, .inr (0, [.int (zI (v))]))] := hD
  exact W.vret hx hb hr (fun tq ht hW => ⟨⟨(), rfl, trivial, by rw [ht]; exact hP, va_K.moved hW.alike hK, hD⟩, hS.F ht⟩) hS.2.2 dJ6_init_d00df_9

-- valueOf, of the cache
set_option maxHeartbeats 4000000 in
set_option maxRecDepth 100000 in
theorem c_J6_valueOf_c (l : Launch) (D : va_G) (t : Nat → ClassId) (ad : Nat → Nat) (d0 tc : Nat) (v : Int) (gv : 0 ≤ v ∧ v ≤ 127) : Met l yJ6_valueOf_2dffe wsJ6_valueOf_2dffe ({ frames := 0, cells := 0, slots := 0, locals := 0 }) (va_Pc [.int (zI (v))] (fun U => va_P D vwCl ([]) U.heap ∧ va_K D vwCl (TY t) U ∧ jK ad d0 tc (fun _ => False) U U.heap)) (va_Sq (fun r => r = some (ad (v + 128).toNat))) 0 0 (fun _ => False) := by
  refine Met.ofW (cc := cJ6_valueOf_2dffe) (maxL := 1) (ret := (some (.object "java/lang/Integer"))) (by decide) rfl ?_
  intro p e s m args below meth c s₁ B hml hv
  obtain ⟨rfl, hP, hK, hJ⟩ := hv
  have hS : va_S (fun _ => False) s.heap s.heap [] := va_S.rf
  have hx := B.exec
  have hb := B.bytes
  have hr := B.returns
  have hts := atoms_spec (ws := wsJ6_valueOf_2dffe) B.pre
  have hown : s.vm.findClass RJ6 = some m.cls := findClass_of_methodNamed B.named
  have hlocks := B.notSynchronized
  have hl := lv_entry ([.int (zI (v))]) (n := 1) (Nat.le_of_ble_eq_true rfl)
  rw [lg_entry_eq]
  generalize (lg_sl ([.int (zI (v))]) ++ List.replicate (1 - (lg_sl ([.int (zI (v))])).length) Slot.unset).toArray = ls at hl ⊢
  have hl : lv_has ls 1 [(0, .int (zI (v)))] := hl
  refine lv_iload_n hx hb dJ6_valueOf_2dffe_0 rfl (lv_at hl 0 rfl) ?_
  refine lv_bipush (v := zI (-128)) hx hb dJ6_valueOf_2dffe_1 (by decide +kernel) ?_
  refine z_icmp_lt (tgt := 23) hx hb dJ6_valueOf_2dffe_3 (by decide) (by omega) (by omega) (fun c3 => ?_) (fun c3 => ?_)
  · omega
  · refine lv_iload_n hx hb dJ6_valueOf_2dffe_6 rfl (lv_at hl 0 rfl) ?_
    refine va_gets (v := .int (zI (127))) hx hb hJ.2.2.1 hS hown (hts (.fieldLink RJ6 191 "java/lang/Integer$IntegerCache" "high" "I") (by decide +kernel)) (fun _ h9 => h9) dJ6_valueOf_2dffe_7 ?_
    refine z_icmp_gt (tgt := 23) hx hb dJ6_valueOf_2dffe_10 (by decide) (by omega) (by omega) (fun c10 => ?_) (fun c10 => ?_)
    · omega
    · refine va_gets (v := .ref tc) hx hb hJ.2.2.2.1 hS hown (hts (.fieldLink RJ6 195 "java/lang/Integer$IntegerCache" "cache" "[Ljava/lang/Integer;") (by decide +kernel)) (fun _ h9 => h9) dJ6_valueOf_2dffe_13 ?_
      refine lv_iload_n hx hb dJ6_valueOf_2dffe_16 rfl (lv_at hl 0 rfl) ?_
      refine lv_sipush (v := zI 128) hx hb dJ6_valueOf_2dffe_17 (by decide +kernel) ?_
      refine z_iadd hx hb dJ6_valueOf_2dffe_20 ?_
      refine z_re (e2 := (((v + 128).toNat : Nat) : Int)) (by omega) ?_
      refine q_tq hx hb hJ.2.2.2.2.1 hS ((v + 128).toNat) (by omega) (by omega) (by decide) dJ6_valueOf_2dffe_21 ?_
      exact W.aret (v := .ref ((ad ((v + 128).toNat)))) hx hb hr (by first | exact Or.inl ⟨_, rfl⟩ | exact Or.inr ⟨_, rfl⟩) (Or.inr ⟨_, rfl⟩) (fun tq ht hW => ⟨some ((ad ((v + 128).toNat))), rfl, rfl, ht⟩) (fun q h => by cases h) dJ6_valueOf_2dffe_22

-- valueOf, a new one
set_option maxHeartbeats 4000000 in
set_option maxRecDepth 100000 in
theorem c_J6_valueOf_n (l : Launch) (D : va_G) (t : Nat → ClassId) (sz : Nat) (ad : Nat → Nat) (d0 tc : Nat) (v : Int) (gv : 127 < v ∧ v < 1000000) : Met l yJ6_valueOf_2dffe wsJ6_valueOf_2dffe ({ frames := 3, cells := 1, slots := 1, locals := 61 }) (va_Pc [.int (zI (v))] (fun U => U.heap.size = sz ∧ va_P D vwCl ([]) U.heap ∧ va_K D vwCl (TY t) U ∧ va_D (fun _ => True) ([]) ∧ jK ad d0 tc (va_A ([]) sz) U U.heap)) (va_Qr (fun (u : Unit) => True) (fun (u : Unit) (r : Nat) t1 => va_P D vwCl ([(r, .inr (0, [.int (zI (v))]))]) t1.heap ∧ va_K D vwCl (TY t) t1 ∧ va_D (va_A ([]) sz) ([(r, .inr (0, [.int (zI (v))]))])) (va_A ([]) sz)) 1 1 (va_A ([]) sz) := by
  refine Met.ofW (cc := cJ6_valueOf_2dffe) (maxL := 1) (ret := (some (.object "java/lang/Integer"))) (by decide) rfl ?_
  intro p e s m args below meth c s₁ B hml hv
  obtain ⟨rfl, hsz, hP, hK, hD0, hJ⟩ := hv
  have hx := B.exec
  have hb := B.bytes
  have hr := B.returns
  have hts := atoms_spec (ws := wsJ6_valueOf_2dffe) B.pre
  have hown : s.vm.findClass RJ6 = some m.cls := findClass_of_methodNamed B.named
  have hlocks := B.notSynchronized
  subst hsz
  have hD := hD0.self (sz := s.heap.size)
  generalize hAe : va_A ([]) s.heap.size = AA at hD hJ ⊢
  have hA : ∀ q : Nat, s.heap.size ≤ q → AA q := fun q h => by rw [← hAe]; exact Or.inr h
  have hS : va_S AA s.heap s.heap [] := va_S.rf
  have hP : va_P D vwCl ([]) s.heap := hP
  have hl := lv_entry ([.int (zI (v))]) (n := 1) (Nat.le_of_ble_eq_true rfl)
  rw [lg_entry_eq]
  generalize (lg_sl ([.int (zI (v))]) ++ List.replicate (1 - (lg_sl ([.int (zI (v))])).length) Slot.unset).toArray = ls at hl ⊢
  have hl : lv_has ls 1 [(0, .int (zI (v)))] := hl
  have iJ6 : ∀ w ∈ u_ws RJ6 TJ6 1, w ∈ wsJ6_valueOf_2dffe := by decide +kernel
  refine lv_iload_n hx hb dJ6_valueOf_2dffe_0 rfl (lv_at hl 0 rfl) ?_
  refine lv_bipush (v := zI (-128)) hx hb dJ6_valueOf_2dffe_1 (by decide +kernel) ?_
  refine z_icmp_lt (tgt := 23) hx hb dJ6_valueOf_2dffe_3 (by decide) (by omega) (by omega) (fun c3 => ?_) (fun c3 => ?_)
  · omega
  · refine lv_iload_n hx hb dJ6_valueOf_2dffe_6 rfl (lv_at hl 0 rfl) ?_
    refine va_gets (v := .int (zI (127))) hx hb hJ.2.2.1 hS hown (hts (.fieldLink RJ6 191 "java/lang/Integer$IntegerCache" "high" "I") (by decide +kernel)) (fun _ h9 => h9) dJ6_valueOf_2dffe_7 ?_
    refine z_icmp_gt (tgt := 23) hx hb dJ6_valueOf_2dffe_10 (by decide) (by omega) (by omega) (fun c10 => ?_) (fun c10 => ?_)
    · refine va_new (ci := 0) (fs := [.int (zI (0))]) (C := RJ6) (T := TJ6) (N := 1) hx hb hts iJ6 tyJ6 tyJ6_ok hown (hts (.classLink RJ6 1 RJ6) (by decide +kernel)) (hts (.instantiable RJ6 1) (by decide +kernel)) (hts (.initialized RJ6) (by decide +kernel)) hK hP hD hS hA rfl (fun j hj => by rcases (show j = 0 by omega) with rfl <;> rfl) (Nat.le_of_ble_eq_true rfl) (Nat.le_of_ble_eq_true rfl) dJ6_valueOf_2dffe_23 (fun q23 H hP hD hS => ?_)
      have hP : va_P D vwCl [(q23, .inr (0, [.int (zI (0))]))] H := hP
      have hD : va_D AA [(q23, .inr (0, [.int (zI (0))]))] := hD
      refine W.widen (k := 1) (n := 1) (by omega) (by omega) ?_
      refine lv_dup hx hb dJ6_valueOf_2dffe_26 rfl ?_
      refine lv_iload_n hx hb dJ6_valueOf_2dffe_27 rfl (lv_at hl 0 rfl) ?_
      have hPc := hP.sub (ws' := [(q23, .inr (0, [.int (zI (0))]))]) [0] rfl
      have hDc := hD.sub (ws' := [(q23, .inr (0, [.int (zI (0))]))]) [0] (by decide) rfl
      have hFc := va_free (wc := [(q23, .inr (0, [.int (zI (0))]))]) hD hS hA [0] rfl
      refine va_callv (va_runI (As := [.int (zI (v))]) (rest := [.ref q23]) ⟨hx, hb, hml, hown, hts⟩ (c_J6_init_d00df l D t H.size q23 v) (cwI 1 hts gJ6_valueOf_2dffe_J6_init_d00df rfl rfl rfl (hts (.initialized RJ6) (by decide +kernel)) (hts (.methodLink RJ6 199 yJ6_init_d00df) (by decide +kernel)) (hts (.instanceMethod yJ6_init_d00df) (by decide +kernel)) rfl (by decide +kernel) ⟨Nat.le_of_ble_eq_true rfl, Nat.le_of_ble_eq_true rfl⟩) ⟨fun a U g mk q => by obtain ⟨q0, q1, qP, qK, qD⟩ := q; exact ⟨q0, q1, qP, va_K.moved (u := U) (U := U.calling g mk a) (Vm.Alike.refl U.vm) qK, qD⟩, fun U hU hW => ⟨rfl, by rw [hU], by rw [hU]; exact hPc, va_K.moved hW.alike hK, hDc.weaken (fun _ _ _ _ => trivial)⟩⟩ rfl rfl hl.1 rfl (lv_room (Nat.le_of_ble_eq_true rfl)) dJ6_valueOf_2dffe_28 ⟨Nat.le_of_ble_eq_true rfl, Nat.le_of_ble_eq_true rfl⟩) hS (fun q _ h => hFc q h) hFc (fun u tq H1 locs ht hvm hr28 hB hz1 hk1 hS => ?_)
      obtain ⟨hP1, hK1, hD1⟩ := hB
      rw [ht] at hP1
      obtain ⟨hP, hD⟩ := va_join (wr := []) (w1 := [(q23, .inr (0, [.int (zI (v))]))]) hP hD [0] [] rfl rfl (by decide) (by decide) hk1 hFc hP1 hD1
      generalize H1 = H at hP hS ⊢
      have hP : va_P D vwCl [(q23, .inr (0, [.int (zI (v))]))] H := hP
      have hD : va_D AA [(q23, .inr (0, [.int (zI (v))]))] := hD
      try dsimp only at hr28
      exact W.aret (v := .ref q23) hx hb hr (by first | exact Or.inl ⟨_, rfl⟩ | exact Or.inr ⟨_, rfl⟩) (Or.inr ⟨_, rfl⟩) (fun tq ht hW => ⟨⟨(), _, rfl, trivial, by rw [ht]; exact hP, va_K.moved hW.alike hK, hD⟩, hS.F ht⟩) hS.2.2 dJ6_valueOf_2dffe_31
    · omega

-- intValue
set_option maxHeartbeats 4000000 in
set_option maxRecDepth 100000 in
theorem c_J6_intValue (l : Launch) (D : va_G) (t : Nat → ClassId) (ad : Nat → Nat) (d0 tc : Nat) (LP : List Nat) (pv : Nat → Int32) (y : Nat) (v : Int) (hbx : vb_bx LP pv ad y (zI v)) : Met l yJ6_intValue_8abf5 wsJ6_intValue_8abf5 ({ frames := 0, cells := 0, slots := 0, locals := 0 }) (va_Pc [.ref y] (fun U => va_P D vwCl (([] ++ PT LP pv)) U.heap ∧ va_K D vwCl (TY t) U ∧ jK ad d0 tc (fun _ => False) U U.heap)) (vp_Si (fun r => r = zI v)) 0 0 (fun _ => False) := by
  refine Met.ofW (cc := cJ6_intValue_8abf5) (maxL := 1) (ret := (some .int)) (by decide) rfl ?_
  intro p e s m args below meth c s₁ B hml hv
  obtain ⟨rfl, hP, hK, hJ⟩ := hv
  have hS : va_S (fun _ => False) s.heap s.heap [] := va_S.rf
  have hx := B.exec
  have hb := B.bytes
  have hr := B.returns
  have hts := atoms_spec (ws := wsJ6_intValue_8abf5) B.pre
  have hown : s.vm.findClass RJ6 = some m.cls := findClass_of_methodNamed B.named
  have hlocks := B.notSynchronized
  have hl := lv_entry ([.ref y]) (n := 1) (Nat.le_of_ble_eq_true rfl)
  rw [lg_entry_eq]
  generalize (lg_sl ([.ref y]) ++ List.replicate (1 - (lg_sl ([.ref y])).length) Slot.unset).toArray = ls at hl ⊢
  have hl : lv_has ls 1 [(0, .ref y)] := hl
  have iJ6 : ∀ w ∈ u_ws RJ6 TJ6 1, w ∈ wsJ6_intValue_8abf5 := by decide +kernel
  refine lv_aload_n hx hb dJ6_intValue_8abf5_0 rfl (lv_at hl 0 rfl) ?_
  refine vb_get (X := []) hx hb hts iJ6 hown hJ.1 hS hK hP rfl ⟨rfl, rfl, rfl⟩ hbx (hts (.fieldLink RJ6 205 "java/lang/Integer" "value" "I") (by decide +kernel)) (fun _ h9 => h9) dJ6_intValue_8abf5_1 ?_
  exact W.iret (v := (zI (v))) hx hb hr (fun tq ht hW => ⟨_, rfl, rfl, ht⟩) (fun q h => by cases h) dJ6_intValue_8abf5_4

-- checkIndex
set_option maxHeartbeats 4000000 in
set_option maxRecDepth 100000 in
theorem c_J3_checkIndex (l : Launch) (i n : Int) (gi : 0 ≤ i ∧ i < n) (gn : n < 2147483648) : Met l yJ3_checkIndex_8e157 wsJ3_checkIndex_8e157 ({ frames := 0, cells := 0, slots := 0, locals := 0 }) (va_Pc [.int (zI (i)), .int (zI (n)), .null] (fun _ => True)) (vp_Si (fun r => r = zI i)) 0 0 (fun _ => False) := by
  refine Met.ofW (cc := cJ3_checkIndex_8e157) (maxL := 3) (ret := (some .int)) (by decide) rfl ?_
  intro p e s m args below meth c s₁ B hml hv
  obtain ⟨rfl, -⟩ := hv
  have hx := B.exec
  have hb := B.bytes
  have hr := B.returns
  have hts := atoms_spec (ws := wsJ3_checkIndex_8e157) B.pre
  have hown : s.vm.findClass RJ3 = some m.cls := findClass_of_methodNamed B.named
  have hlocks := B.notSynchronized
  have hl := lv_entry ([.int (zI (i)), .int (zI (n)), .null]) (n := 3) (Nat.le_of_ble_eq_true rfl)
  rw [lg_entry_eq]
  generalize (lg_sl ([.int (zI (i)), .int (zI (n)), .null]) ++ List.replicate (3 - (lg_sl ([.int (zI (i)), .int (zI (n)), .null])).length) Slot.unset).toArray = ls at hl ⊢
  have hl : lv_has ls 3 [(0, .int (zI (i))), (1, .int (zI (n))), (2, .null)] := hl
  refine lv_iload_n hx hb dJ3_checkIndex_8e157_0 rfl (lv_at hl 0 rfl) ?_
  refine z_if_lt (tgt := 9) hx hb dJ3_checkIndex_8e157_1 (by decide) (by omega) (fun c1 => ?_) (fun c1 => ?_)
  · omega
  · refine lv_iload_n hx hb dJ3_checkIndex_8e157_4 rfl (lv_at hl 0 rfl) ?_
    refine lv_iload_n hx hb dJ3_checkIndex_8e157_5 rfl (lv_at hl 1 rfl) ?_
    refine z_icmp_lt (tgt := 16) hx hb dJ3_checkIndex_8e157_6 (by decide) (by omega) (by omega) (fun c6 => ?_) (fun c6 => ?_)
    · refine lv_iload_n hx hb dJ3_checkIndex_8e157_16 rfl (lv_at hl 0 rfl) ?_
      exact W.iret (v := (zI (i))) hx hb hr (fun tq ht hW => ⟨_, rfl, rfl, ht⟩) (fun q h => by cases h) dJ3_checkIndex_8e157_17
    · omega

-- checkIndex
set_option maxHeartbeats 4000000 in
set_option maxRecDepth 100000 in
theorem c_J15_checkIndex (l : Launch) (i n : Int) (gi : 0 ≤ i ∧ i < n) (gn : n < 2147483648) : Met l yJ15_checkIndex_7cf53 wsJ15_checkIndex_7cf53 ({ frames := 1, cells := 0, slots := 0, locals := 22 }) (va_Pc [.int (zI (i)), .int (zI (n))] (fun _ => True)) (vp_Si (fun r => r = zI i)) 0 0 (fun _ => False) := by
  refine Met.ofW (cc := cJ15_checkIndex_7cf53) (maxL := 2) (ret := (some .int)) (by decide) rfl ?_
  intro p e s m args below meth c s₁ B hml hv
  obtain ⟨rfl, -⟩ := hv
  have hx := B.exec
  have hb := B.bytes
  have hr := B.returns
  have hts := atoms_spec (ws := wsJ15_checkIndex_7cf53) B.pre
  have hown : s.vm.findClass RJ15 = some m.cls := findClass_of_methodNamed B.named
  have hlocks := B.notSynchronized
  have hl := lv_entry ([.int (zI (i)), .int (zI (n))]) (n := 2) (Nat.le_of_ble_eq_true rfl)
  rw [lg_entry_eq]
  generalize (lg_sl ([.int (zI (i)), .int (zI (n))]) ++ List.replicate (2 - (lg_sl ([.int (zI (i)), .int (zI (n))])).length) Slot.unset).toArray = ls at hl ⊢
  have hl : lv_has ls 2 [(0, .int (zI (i))), (1, .int (zI (n)))] := hl
  refine lv_iload_n hx hb dJ15_checkIndex_7cf53_0 rfl (lv_at hl 0 rfl) ?_
  refine lv_iload_n hx hb dJ15_checkIndex_7cf53_1 rfl (lv_at hl 1 rfl) ?_
  refine lv_null hx hb dJ15_checkIndex_7cf53_2 ?_
  refine vp_callSi (va_runS (As := [.int (zI (i)), .int (zI (n)), .null]) (rest := []) ⟨hx, hb, hml, hown, hts⟩ (c_J3_checkIndex l i n gi gn) (va_cwS 3 hts gJ15_checkIndex_7cf53_J3_checkIndex_8e157 rfl rfl rfl (by decide +kernel) ⟨Nat.le_of_ble_eq_true rfl, Nat.le_of_ble_eq_true rfl⟩) ⟨fun a U g mk q => q, fun U hU hW => ⟨rfl, trivial⟩⟩ rfl rfl hl.1 rfl (lv_room (Nat.le_of_ble_eq_true rfl)) dJ15_checkIndex_7cf53_3 ⟨Nat.le_of_ble_eq_true rfl, Nat.le_of_ble_eq_true rfl⟩).run (fun r hr3 => ?_)
  obtain rfl := hr3
  exact W.iret (v := (zI (i))) hx hb hr (fun tq ht hW => ⟨_, rfl, rfl, ht⟩) (fun q h => by cases h) dJ15_checkIndex_7cf53_6

-- size
set_option maxHeartbeats 4000000 in
set_option maxRecDepth 100000 in
theorem c_size (l : Launch) (D : va_G) (t : Nat → ClassId) (li eA k : Nat) (mo : Int)  : Met l yJx4a65c_size_8abf5 wsJx4a65c_size_8abf5 ({ frames := 0, cells := 0, slots := 0, locals := 0 }) (va_Pc [.ref li] (fun U => va_P D vwCl ([(li, .inr (1, [.int (zI (mo)), .ref eA, .int (zI (((k : Nat) : Int)))]))]) U.heap ∧ va_K D vwCl (TY t) U)) (vp_Si (fun r => r = zI (k : Int))) 0 0 (fun _ => False) := by
  refine Met.ofW (cc := cJx4a65c_size_8abf5) (maxL := 1) (ret := (some .int)) (by decide) rfl ?_
  intro p e s m args below meth c s₁ B hml hv
  obtain ⟨rfl, hP, hK⟩ := hv
  have hx := B.exec
  have hb := B.bytes
  have hr := B.returns
  have hts := atoms_spec (ws := wsJx4a65c_size_8abf5) B.pre
  have hown : s.vm.findClass RJx4a65c = some m.cls := findClass_of_methodNamed B.named
  have hlocks := B.notSynchronized
  have hl := lv_entry ([.ref li]) (n := 1) (Nat.le_of_ble_eq_true rfl)
  rw [lg_entry_eq]
  generalize (lg_sl ([.ref li]) ++ List.replicate (1 - (lg_sl ([.ref li])).length) Slot.unset).toArray = ls at hl ⊢
  have hl : lv_has ls 1 [(0, .ref li)] := hl
  have iJx4a65c : ∀ w ∈ u_ws RJx4a65c TJx4a65c 3, w ∈ wsJx4a65c_size_8abf5 := by decide +kernel
  refine lv_aload_n hx hb dJx4a65c_size_8abf5_0 rfl (lv_at hl 0 rfl) ?_
  refine va_get (D := D) (ci := 1) (v := .int (zI (((k : Nat) : Int)))) (C := RJx4a65c) (T := TJx4a65c) (N := 3) hx hb hts iJx4a65c hown hK hP 0 rfl rfl 2 (by decide) (hts (.fieldLink RJx4a65c 48 "java/util/ArrayList" "size" "I") (by decide +kernel)) (fun _ h9 => h9) rfl dJx4a65c_size_8abf5_1 ?_
  exact W.iret (v := (zI (((k : Nat) : Int)))) hx hb hr (fun tq ht hW => ⟨_, rfl, rfl, ht⟩) (fun q h => by cases h) dJx4a65c_size_8abf5_4

-- elementData
set_option maxHeartbeats 4000000 in
set_option maxRecDepth 100000 in
theorem c_elementData (l : Launch) (D : va_G) (t : Nat → ClassId) (li eA k : Nat) (mo : Int) (f : Nat → Option Nat) (gk : k ≤ 10) (i y : Nat) (hi : i < k) (hf : f i = some y) : Met l yJx4a65c_elementData_915e3 wsJx4a65c_elementData_915e3 ({ frames := 0, cells := 0, slots := 0, locals := 0 }) (va_Pc [.ref li, .int (zI (i))] (fun U => va_P D vwCl ([(li, .inr (1, [.int (zI (mo)), .ref eA, .int (zI (((k : Nat) : Int)))])), aQ t 6 eA 10 (f)]) U.heap ∧ va_K D vwCl (TY t) U)) (va_Sq (fun r => r = some y)) 0 0 (fun _ => False) := by
  refine Met.ofW (cc := cJx4a65c_elementData_915e3) (maxL := 2) (ret := (some (.object "java/lang/Object"))) (by decide) rfl ?_
  intro p e s m args below meth c s₁ B hml hv
  obtain ⟨rfl, hP, hK⟩ := hv
  have hx := B.exec
  have hb := B.bytes
  have hr := B.returns
  have hts := atoms_spec (ws := wsJx4a65c_elementData_915e3) B.pre
  have hown : s.vm.findClass RJx4a65c = some m.cls := findClass_of_methodNamed B.named
  have hlocks := B.notSynchronized
  have hl := lv_entry ([.ref li, .int (zI (i))]) (n := 2) (Nat.le_of_ble_eq_true rfl)
  rw [lg_entry_eq]
  generalize (lg_sl ([.ref li, .int (zI (i))]) ++ List.replicate (2 - (lg_sl ([.ref li, .int (zI (i))])).length) Slot.unset).toArray = ls at hl ⊢
  have hl : lv_has ls 2 [(0, .ref li), (1, .int (zI (i)))] := hl
  have iJx4a65c : ∀ w ∈ u_ws RJx4a65c TJx4a65c 3, w ∈ wsJx4a65c_elementData_915e3 := by decide +kernel
  refine lv_aload_n hx hb dJx4a65c_elementData_915e3_0 rfl (lv_at hl 0 rfl) ?_
  refine va_get (D := D) (ci := 1) (v := .ref eA) (C := RJx4a65c) (T := TJx4a65c) (N := 3) hx hb hts iJx4a65c hown hK hP 0 rfl rfl 1 (by decide) (hts (.fieldLink RJx4a65c 9 "java/util/ArrayList" "elementData" "[Ljava/lang/Object;") (by decide +kernel)) (fun _ h9 => h9) rfl dJx4a65c_elementData_915e3_1 ?_
  refine lv_iload_n hx hb dJx4a65c_elementData_915e3_4 rfl (lv_at hl 1 rfl) ?_
  refine q_aald hx hb hK hP 1 6 rfl rfl (i) (by omega) (by omega) (by omega) dJx4a65c_elementData_915e3_5 ?_
  refine q_some (x := y) (hf) ?_
  exact W.aret (v := .ref y) hx hb hr (by first | exact Or.inl ⟨_, rfl⟩ | exact Or.inr ⟨_, rfl⟩) (Or.inr ⟨_, rfl⟩) (fun tq ht hW => ⟨some (y), rfl, rfl, ht⟩) (fun q h => by cases h) dJx4a65c_elementData_915e3_6

-- get
set_option maxHeartbeats 4000000 in
set_option maxRecDepth 100000 in
theorem c_get (l : Launch) (D : va_G) (t : Nat → ClassId) (li eA k : Nat) (mo : Int) (f : Nat → Option Nat) (gk : k ≤ 10) (i y : Nat) (hi : i < k) (hf : f i = some y) : Met l yJx4a65c_get_915e3 wsJx4a65c_get_915e3 ({ frames := 2, cells := 0, slots := 0, locals := 43 }) (va_Pc [.ref li, .int (zI (i))] (fun U => va_P D vwCl ([(li, .inr (1, [.int (zI (mo)), .ref eA, .int (zI (((k : Nat) : Int)))])), aQ t 6 eA 10 (f)]) U.heap ∧ va_K D vwCl (TY t) U)) (va_Sq (fun r => r = some y)) 0 0 (fun _ => False) := by
  refine Met.ofW (cc := cJx4a65c_get_915e3) (maxL := 2) (ret := (some (.object "java/lang/Object"))) (by decide) rfl ?_
  intro p e s m args below meth c s₁ B hml hv
  obtain ⟨rfl, hP, hK⟩ := hv
  have hx := B.exec
  have hb := B.bytes
  have hr := B.returns
  have hts := atoms_spec (ws := wsJx4a65c_get_915e3) B.pre
  have hown : s.vm.findClass RJx4a65c = some m.cls := findClass_of_methodNamed B.named
  have hlocks := B.notSynchronized
  have hl := lv_entry ([.ref li, .int (zI (i))]) (n := 2) (Nat.le_of_ble_eq_true rfl)
  rw [lg_entry_eq]
  generalize (lg_sl ([.ref li, .int (zI (i))]) ++ List.replicate (2 - (lg_sl ([.ref li, .int (zI (i))])).length) Slot.unset).toArray = ls at hl ⊢
  have hl : lv_has ls 2 [(0, .ref li), (1, .int (zI (i)))] := hl
  have iJx4a65c : ∀ w ∈ u_ws RJx4a65c TJx4a65c 3, w ∈ wsJx4a65c_get_915e3 := by decide +kernel
  refine lv_iload_n hx hb dJx4a65c_get_915e3_0 rfl (lv_at hl 1 rfl) ?_
  refine lv_aload_n hx hb dJx4a65c_get_915e3_1 rfl (lv_at hl 0 rfl) ?_
  refine va_get (D := D) (ci := 1) (v := .int (zI (((k : Nat) : Int)))) (C := RJx4a65c) (T := TJx4a65c) (N := 3) hx hb hts iJx4a65c hown hK hP 0 rfl rfl 2 (by decide) (hts (.fieldLink RJx4a65c 48 "java/util/ArrayList" "size" "I") (by decide +kernel)) (fun _ h9 => h9) rfl dJx4a65c_get_915e3_2 ?_
  refine vp_callSi (va_runS (As := [.int (zI (i)), .int (zI (((k : Nat) : Int)))]) (rest := []) ⟨hx, hb, hml, hown, hts⟩ (c_J15_checkIndex l (i : Int) (k : Int) (by omega) (by omega)) (va_cwS 2 hts gJx4a65c_get_915e3_J15_checkIndex_7cf53 rfl rfl rfl (by decide +kernel) ⟨Nat.le_of_ble_eq_true rfl, Nat.le_of_ble_eq_true rfl⟩) ⟨fun a U g mk q => q, fun U hU hW => ⟨rfl, trivial⟩⟩ rfl rfl hl.1 rfl (lv_room (Nat.le_of_ble_eq_true rfl)) dJx4a65c_get_915e3_5 ⟨Nat.le_of_ble_eq_true rfl, Nat.le_of_ble_eq_true rfl⟩).run (fun r hr5 => ?_)
  obtain rfl := hr5
  refine lv_pop hx hb dJx4a65c_get_915e3_8 rfl ?_
  refine lv_aload_n hx hb dJx4a65c_get_915e3_9 rfl (lv_at hl 0 rfl) ?_
  refine lv_iload_n hx hb dJx4a65c_get_915e3_10 rfl (lv_at hl 1 rfl) ?_
  have hPc := hP.sub (ws' := [(li, .inr (1, [.int (zI (mo)), .ref eA, .int (zI (((k : Nat) : Int)))])), aQ t 6 eA 10 (f)]) [0, 1] rfl
  refine va_csq (va_runV (As := [.int (zI (i))]) (rest := []) ⟨hx, hb, hml, hown, hts⟩ (c_elementData l D t li eA k mo f gk i y hi hf) (cwV 1 hts gJx4a65c_get_915e3_Jx4a65c_elementData_915e3 rfl rfl rfl (by decide +kernel) ⟨Nat.le_of_ble_eq_true rfl, Nat.le_of_ble_eq_true rfl⟩) ⟨fun a U g mk q => ⟨q.1, q.2.1, va_K.moved (u := U) (U := U.calling g mk a) (Vm.Alike.refl U.vm) q.2.2⟩, va_recv hK hPc (ci := 1) (q0 := 0) rfl rfl, fun U hU hW => ⟨rfl, by rw [hU]; exact hPc, va_K.moved hW.alike hK⟩⟩ rfl rfl hl.1 rfl (lv_room (Nat.le_of_ble_eq_true rfl)) dJx4a65c_get_915e3_11 ⟨Nat.le_of_ble_eq_true rfl, Nat.le_of_ble_eq_true rfl⟩).run (fun r hr11 => ?_)
  obtain rfl := hr11
  exact W.aret (v := .ref y) hx hb hr (by first | exact Or.inl ⟨_, rfl⟩ | exact Or.inr ⟨_, rfl⟩) (Or.inr ⟨_, rfl⟩) (fun tq ht hW => ⟨some (y), rfl, rfl, ht⟩) (fun q h => by cases h) dJx4a65c_get_915e3_14

-- grow(1) of a list of nothing
set_option maxHeartbeats 4000000 in
set_option maxRecDepth 100000 in
theorem c_grow_I (l : Launch) (D : va_G) (t : Nat → ClassId) (sz : Nat) (ad : Nat → Nat) (d0 tc : Nat) (li : Nat) (mo : Int)  : Met l yJx4a65c_grow_92f84 wsJx4a65c_grow_92f84 ({ frames := 1, cells := 1, slots := 10, locals := 24 }) (va_Pc [.ref li, .int (zI (1))] (fun U => U.heap.size = sz ∧ va_P D vwCl ([(li, .inr (1, [.int (zI (mo)), .ref d0, .int (zI (((0 : Nat) : Int)))]))]) U.heap ∧ va_K D vwCl (TY t) U ∧ va_D (fun _ => True) ([(li, .inr (1, [.int (zI (mo)), .ref d0, .int (zI (((0 : Nat) : Int)))]))]) ∧ jK ad d0 tc (va_A ([(li, .inr (1, [.int (zI (mo)), .ref d0, .int (zI (((0 : Nat) : Int)))]))]) sz) U U.heap)) (va_Qr (fun (u : Unit) => True) (fun (u : Unit) (r : Nat) t1 => va_P D vwCl ([(li, .inr (1, [.int (zI (mo)), .ref r, .int (zI (((0 : Nat) : Int)))])), aQ t 6 r 10 (fun _ => none)]) t1.heap ∧ va_K D vwCl (TY t) t1 ∧ va_D (va_A ([(li, .inr (1, [.int (zI (mo)), .ref d0, .int (zI (((0 : Nat) : Int)))]))]) sz) ([(li, .inr (1, [.int (zI (mo)), .ref r, .int (zI (((0 : Nat) : Int)))])), aQ t 6 r 10 (fun _ => none)])) (va_A ([(li, .inr (1, [.int (zI (mo)), .ref d0, .int (zI (((0 : Nat) : Int)))]))]) sz)) 1 10 (va_A ([(li, .inr (1, [.int (zI (mo)), .ref d0, .int (zI (((0 : Nat) : Int)))]))]) sz) := by
  refine Met.ofW (cc := cJx4a65c_grow_92f84) (maxL := 4) (ret := (some (.array (.object "java/lang/Object")))) (by decide) rfl ?_
  intro p e s m args below meth c s₁ B hml hv
  obtain ⟨rfl, hsz, hP, hK, hD0, hJ⟩ := hv
  have hx := B.exec
  have hb := B.bytes
  have hr := B.returns
  have hts := atoms_spec (ws := wsJx4a65c_grow_92f84) B.pre
  have hown : s.vm.findClass RJx4a65c = some m.cls := findClass_of_methodNamed B.named
  have hlocks := B.notSynchronized
  subst hsz
  have hD := hD0.self (sz := s.heap.size)
  generalize hAe : va_A ([(li, .inr (1, [.int (zI (mo)), .ref d0, .int (zI (((0 : Nat) : Int)))]))]) s.heap.size = AA at hD hJ ⊢
  have hA : ∀ q : Nat, s.heap.size ≤ q → AA q := fun q h => by rw [← hAe]; exact Or.inr h
  have hS : va_S AA s.heap s.heap [] := va_S.rf
  have hP : va_P D vwCl ([(li, .inr (1, [.int (zI (mo)), .ref d0, .int (zI (((0 : Nat) : Int)))]))]) s.heap := hP
  have hl := lv_entry ([.ref li, .int (zI (1))]) (n := 4) (Nat.le_of_ble_eq_true rfl)
  rw [lg_entry_eq]
  generalize (lg_sl ([.ref li, .int (zI (1))]) ++ List.replicate (4 - (lg_sl ([.ref li, .int (zI (1))])).length) Slot.unset).toArray = ls at hl ⊢
  have hl : lv_has ls 4 [(0, .ref li), (1, .int (zI (1)))] := hl
  have iJx4a65c : ∀ w ∈ u_ws RJx4a65c TJx4a65c 3, w ∈ wsJx4a65c_grow_92f84 := by decide +kernel
  refine lv_aload_n hx hb dJx4a65c_grow_92f84_0 rfl (lv_at hl 0 rfl) ?_
  refine va_get (D := D) (ci := 1) (v := .ref d0) (C := RJx4a65c) (T := TJx4a65c) (N := 3) hx hb hts iJx4a65c hown hK hP 0 rfl rfl 1 (by decide) (hts (.fieldLink RJx4a65c 9 "java/util/ArrayList" "elementData" "[Ljava/lang/Object;") (by decide +kernel)) (fun _ h9 => h9) rfl dJx4a65c_grow_92f84_1 ?_
  refine va_tlen (v := zI (((0 : Nat) : Int))) hx hb hJ.2.2.2.2.2.1 hS rfl dJx4a65c_grow_92f84_4 ?_
  refine lv_istore_n (lv' := [(2, .int (zI (((0 : Nat) : Int)))), (0, .ref li), (1, .int (zI (1)))]) hx hb dJx4a65c_grow_92f84_5 rfl hl (by decide) rfl (fun ls hl => ?_)
  refine lv_iload_n hx hb dJx4a65c_grow_92f84_6 rfl (lv_at hl 0 rfl) ?_
  refine z_if_gt (tgt := 20) hx hb dJx4a65c_grow_92f84_7 (by decide) (by omega) (fun c7 => ?_) (fun c7 => ?_)
  · exact absurd c7 (by decide)
  · refine lv_aload_n hx hb dJx4a65c_grow_92f84_10 rfl (lv_at hl 1 rfl) ?_
    refine va_get (D := D) (ci := 1) (v := .ref d0) (C := RJx4a65c) (T := TJx4a65c) (N := 3) hx hb hts iJx4a65c hown hK hP 0 rfl rfl 1 (by decide) (hts (.fieldLink RJx4a65c 9 "java/util/ArrayList" "elementData" "[Ljava/lang/Object;") (by decide +kernel)) (fun _ h9 => h9) rfl dJx4a65c_grow_92f84_11 ?_
    refine va_gets (v := .ref d0) hx hb hJ.2.1 hS hown (hts (.fieldLink RJx4a65c 39 "java/util/ArrayList" "DEFAULTCAPACITY_EMPTY_ELEMENTDATA" "[Ljava/lang/Object;") (by decide +kernel)) (fun _ h9 => h9) dJx4a65c_grow_92f84_14 ?_
    refine lv_acmp_eq (rx := (some d0)) (ry := (some d0)) (tgt := 45) hx hb dJx4a65c_grow_92f84_17 (by decide) (fun c17 => ?_) (fun c17 => ?_)
    · refine lv_aload_n hx hb dJx4a65c_grow_92f84_45 rfl (lv_at hl 1 rfl) ?_
      refine lv_bipush (v := zI 10) hx hb dJx4a65c_grow_92f84_46 (by decide +kernel) ?_
      refine lv_iload_n hx hb dJx4a65c_grow_92f84_48 rfl (lv_at hl 2 rfl) ?_
      refine z_mmax hx hb (hml.trans hl.1.symm) hown (hts (.methodLink RJx4a65c 79 Lib.Math.max.name) (by decide +kernel)) (hts (.static Lib.Math.max.name) (by decide +kernel)) (hts (.initialized "java/lang/Math") (by decide +kernel)) (hts (.code Lib.Math.max.name Lib.Math.max.code 2 (some .int)) (by decide +kernel)) (Nat.le_of_ble_eq_true rfl) (Nat.le_of_ble_eq_true rfl) (Nat.le_of_ble_eq_true rfl) (Nat.le_of_ble_eq_true rfl) (by omega) (by omega) dJx4a65c_grow_92f84_49 ?_
      refine z_re (e2 := ((10 : Nat) : Int)) (by omega) ?_
      refine q_newQ (C := "java/lang/Object") hx hb hown (hts (.classLink RJx4a65c 7 "java/lang/Object") (by decide +kernel)) hJ.2.2.2.2.2.2.1 hK hP hD hS hA 6 rfl (10) (by omega) (by omega) (Nat.le_of_ble_eq_true rfl) (Nat.le_of_ble_eq_true rfl) dJx4a65c_grow_92f84_52 (fun q52 H hP hD hS => ?_)
      have hP : va_P D vwCl [(li, .inr (1, [.int (zI (mo)), .ref d0, .int (zI (((0 : Nat) : Int)))])), aQ t 6 q52 10 (fun _ => none)] H := hP
      have hD : va_D AA [(li, .inr (1, [.int (zI (mo)), .ref d0, .int (zI (((0 : Nat) : Int)))])), aQ t 6 q52 10 (fun _ => none)] := hD
      refine W.widen (k := 1) (n := 10) (by omega) (by omega) ?_
      refine lv_dup_x1 hx hb dJx4a65c_grow_92f84_55 rfl rfl ?_
      refine va_put (D := D) (ci := 1) (v := .ref q52) (ty := .array (.object "java/lang/Object")) (C := RJx4a65c) (T := TJx4a65c) (N := 3) hx hb hts iJx4a65c tyJx4a65c tyJx4a65c_ok nmJx4a65c hown hK hP hD hS 0 rfl rfl 1 (by decide) (hts (.fieldLink RJx4a65c 9 "java/util/ArrayList" "elementData" "[Ljava/lang/Object;") (by decide +kernel)) (fun _ h9 => h9) rfl (by decide +kernel) rfl rfl (Nat.le_of_ble_eq_true rfl) dJx4a65c_grow_92f84_56 (fun H locs hP hD hS => ?_)
      have hP : va_P D vwCl [(li, .inr (1, [.int (zI (mo)), .ref q52, .int (zI (((0 : Nat) : Int)))])), aQ t 6 q52 10 (fun _ => none)] H := hP
      have hD : va_D AA [(li, .inr (1, [.int (zI (mo)), .ref q52, .int (zI (((0 : Nat) : Int)))])), aQ t 6 q52 10 (fun _ => none)] := hD
      exact W.aret (v := .ref q52) hx hb hr (by first | exact Or.inl ⟨_, rfl⟩ | exact Or.inr ⟨_, rfl⟩) (Or.inr ⟨_, rfl⟩) (fun tq ht hW => ⟨⟨(), _, rfl, trivial, by rw [ht]; exact hP, va_K.moved hW.alike hK, hD⟩, hS.F ht⟩) hS.2.2 dJx4a65c_grow_92f84_59
    · exact absurd rfl c17

-- grow() of a list of nothing
set_option maxHeartbeats 4000000 in
set_option maxRecDepth 100000 in
theorem c_grow (l : Launch) (D : va_G) (t : Nat → ClassId) (sz : Nat) (ad : Nat → Nat) (d0 tc : Nat) (li : Nat) (mo : Int)  : Met l yJx4a65c_grow_d5877 wsJx4a65c_grow_d5877 ({ frames := 2, cells := 1, slots := 10, locals := 47 }) (va_Pc [.ref li] (fun U => U.heap.size = sz ∧ va_P D vwCl ([(li, .inr (1, [.int (zI (mo)), .ref d0, .int (zI (((0 : Nat) : Int)))]))]) U.heap ∧ va_K D vwCl (TY t) U ∧ va_D (fun _ => True) ([(li, .inr (1, [.int (zI (mo)), .ref d0, .int (zI (((0 : Nat) : Int)))]))]) ∧ jK ad d0 tc (va_A ([(li, .inr (1, [.int (zI (mo)), .ref d0, .int (zI (((0 : Nat) : Int)))]))]) sz) U U.heap)) (va_Qr (fun (u : Unit) => True) (fun (u : Unit) (r : Nat) t1 => va_P D vwCl ([(li, .inr (1, [.int (zI (mo)), .ref r, .int (zI (((0 : Nat) : Int)))])), aQ t 6 r 10 (fun _ => none)]) t1.heap ∧ va_K D vwCl (TY t) t1 ∧ va_D (va_A ([(li, .inr (1, [.int (zI (mo)), .ref d0, .int (zI (((0 : Nat) : Int)))]))]) sz) ([(li, .inr (1, [.int (zI (mo)), .ref r, .int (zI (((0 : Nat) : Int)))])), aQ t 6 r 10 (fun _ => none)])) (va_A ([(li, .inr (1, [.int (zI (mo)), .ref d0, .int (zI (((0 : Nat) : Int)))]))]) sz)) 1 10 (va_A ([(li, .inr (1, [.int (zI (mo)), .ref d0, .int (zI (((0 : Nat) : Int)))]))]) sz) := by
  refine Met.ofW (cc := cJx4a65c_grow_d5877) (maxL := 1) (ret := (some (.array (.object "java/lang/Object")))) (by decide) rfl ?_
  intro p e s m args below meth c s₁ B hml hv
  obtain ⟨rfl, hsz, hP, hK, hD0, hJ⟩ := hv
  have hx := B.exec
  have hb := B.bytes
  have hr := B.returns
  have hts := atoms_spec (ws := wsJx4a65c_grow_d5877) B.pre
  have hown : s.vm.findClass RJx4a65c = some m.cls := findClass_of_methodNamed B.named
  have hlocks := B.notSynchronized
  subst hsz
  have hD := hD0.self (sz := s.heap.size)
  generalize hAe : va_A ([(li, .inr (1, [.int (zI (mo)), .ref d0, .int (zI (((0 : Nat) : Int)))]))]) s.heap.size = AA at hD hJ ⊢
  have hA : ∀ q : Nat, s.heap.size ≤ q → AA q := fun q h => by rw [← hAe]; exact Or.inr h
  have hS : va_S AA s.heap s.heap [] := va_S.rf
  have hP : va_P D vwCl ([(li, .inr (1, [.int (zI (mo)), .ref d0, .int (zI (((0 : Nat) : Int)))]))]) s.heap := hP
  have hl := lv_entry ([.ref li]) (n := 1) (Nat.le_of_ble_eq_true rfl)
  rw [lg_entry_eq]
  generalize (lg_sl ([.ref li]) ++ List.replicate (1 - (lg_sl ([.ref li])).length) Slot.unset).toArray = ls at hl ⊢
  have hl : lv_has ls 1 [(0, .ref li)] := hl
  have iJx4a65c : ∀ w ∈ u_ws RJx4a65c TJx4a65c 3, w ∈ wsJx4a65c_grow_d5877 := by decide +kernel
  refine lv_aload_n hx hb dJx4a65c_grow_d5877_0 rfl (lv_at hl 0 rfl) ?_
  refine lv_aload_n hx hb dJx4a65c_grow_d5877_1 rfl (lv_at hl 0 rfl) ?_
  refine va_get (D := D) (ci := 1) (v := .int (zI (((0 : Nat) : Int)))) (C := RJx4a65c) (T := TJx4a65c) (N := 3) hx hb hts iJx4a65c hown hK hP 0 rfl rfl 2 (by decide) (hts (.fieldLink RJx4a65c 48 "java/util/ArrayList" "size" "I") (by decide +kernel)) (fun _ h9 => h9) rfl dJx4a65c_grow_d5877_2 ?_
  refine lv_iconst (v := zI 1) hx hb dJx4a65c_grow_d5877_5 rfl ?_
  refine z_iadd hx hb dJx4a65c_grow_d5877_6 ?_
  refine z_re (e2 := 1) (rfl) ?_
  have hPc := hP.sub (ws' := [(li, .inr (1, [.int (zI (mo)), .ref d0, .int (zI (((0 : Nat) : Int)))]))]) [0] rfl
  have hDc := hD.sub (ws' := [(li, .inr (1, [.int (zI (mo)), .ref d0, .int (zI (((0 : Nat) : Int)))]))]) [0] (by decide) rfl
  have hFc := va_free (wc := [(li, .inr (1, [.int (zI (mo)), .ref d0, .int (zI (((0 : Nat) : Int)))]))]) hD hS hA [0] rfl
  refine va_callr (va_runV (As := [.int (zI (1))]) (rest := []) ⟨hx, hb, hml, hown, hts⟩ (c_grow_I l D t s.heap.size ad d0 tc li mo) (cwV 1 hts gJx4a65c_grow_d5877_Jx4a65c_grow_92f84 rfl rfl rfl (by decide +kernel) ⟨Nat.le_of_ble_eq_true rfl, Nat.le_of_ble_eq_true rfl⟩) ⟨fun a U g mk q => by obtain ⟨q0, q1, qP, qK, qD, qS0⟩ := q; exact ⟨q0, q1, qP, va_K.moved (u := U) (U := U.calling g mk a) (Vm.Alike.refl U.vm) qK, qD, qS0.moved (u := U) (U := U.calling g mk a) (Vm.Alike.refl U.vm)⟩, va_recv hK hPc (ci := 1) (q0 := 0) rfl rfl, fun U hU hW => ⟨rfl, by rw [hU], by rw [hU]; exact hPc, va_K.moved hW.alike hK, hDc.weaken (fun _ _ _ _ => trivial), by rw [hU]; exact (((hJ.kept hS.2.1).narrow hFc)).moved hW.alike⟩⟩ rfl rfl hl.1 rfl (lv_room (Nat.le_of_ble_eq_true rfl)) dJx4a65c_grow_d5877_7 ⟨Nat.le_of_ble_eq_true rfl, Nat.le_of_ble_eq_true rfl⟩) hS (fun q _ h => hFc q h) hFc (fun u r tq H1 locs ht hvm hr7 hB hz1 hk1 hS => ?_)
  obtain ⟨hP1, hK1, hD1⟩ := hB
  rw [ht] at hP1
  obtain ⟨hP, hD⟩ := va_join (wr := []) (w1 := [(li, .inr (1, [.int (zI (mo)), .ref r, .int (zI (((0 : Nat) : Int)))])), aQ t 6 r 10 (fun _ => none)]) hP hD [0] [] rfl rfl (by decide) (by decide) hk1 hFc hP1 hD1
  generalize H1 = H at hP hS ⊢
  have hP : va_P D vwCl [(li, .inr (1, [.int (zI (mo)), .ref r, .int (zI (((0 : Nat) : Int)))])), aQ t 6 r 10 (fun _ => none)] H := hP
  have hD : va_D AA [(li, .inr (1, [.int (zI (mo)), .ref r, .int (zI (((0 : Nat) : Int)))])), aQ t 6 r 10 (fun _ => none)] := hD
  try dsimp only at hr7
  exact W.aret (v := .ref r) hx hb hr (by first | exact Or.inl ⟨_, rfl⟩ | exact Or.inr ⟨_, rfl⟩) (Or.inr ⟨_, rfl⟩) (fun tq ht hW => ⟨⟨(), _, rfl, trivial, by rw [ht]; exact hP, va_K.moved hW.alike hK, hD⟩, hS.F ht⟩) hS.2.2 dJx4a65c_grow_d5877_10

-- add, the first
set_option maxHeartbeats 4000000 in
set_option maxRecDepth 100000 in
theorem c_add3_0 (l : Launch) (D : va_G) (t : Nat → ClassId) (sz : Nat) (ad : Nat → Nat) (d0 tc : Nat) (li : Nat) (mo : Int) (y : Nat)  : Met l yJx4a65c_add_72be8 wsJx4a65c_add_72be8 ({ frames := 3, cells := 1, slots := 10, locals := 67 }) (va_Pc [.ref li, .ref y, .ref d0, .int (zI (((0 : Nat) : Int)))] (fun U => U.heap.size = sz ∧ va_P D vwCl ([(li, .inr (1, [.int (zI (mo)), .ref d0, .int (zI (((0 : Nat) : Int)))]))]) U.heap ∧ va_K D vwCl (TY t) U ∧ va_D (fun _ => True) ([(li, .inr (1, [.int (zI (mo)), .ref d0, .int (zI (((0 : Nat) : Int)))]))]) ∧ jK ad d0 tc (va_A ([(li, .inr (1, [.int (zI (mo)), .ref d0, .int (zI (((0 : Nat) : Int)))]))]) sz) U U.heap ∧ va_O "java/lang/Integer" y (va_A ([(li, .inr (1, [.int (zI (mo)), .ref d0, .int (zI (((0 : Nat) : Int)))]))]) sz) U U.heap)) (va_Qv (fun (u : Nat) => True) (fun (u : Nat) t1 => va_P D vwCl ([(li, .inr (1, [.int (zI (mo)), .ref u, .int (zI (((1 : Nat) : Int)))])), aQ t 6 u 10 (va_up (fun _ => none) 0 (some y))]) t1.heap ∧ va_K D vwCl (TY t) t1 ∧ va_D (va_A ([(li, .inr (1, [.int (zI (mo)), .ref d0, .int (zI (((0 : Nat) : Int)))]))]) sz) ([(li, .inr (1, [.int (zI (mo)), .ref u, .int (zI (((1 : Nat) : Int)))])), aQ t 6 u 10 (va_up (fun _ => none) 0 (some y))])) (va_A ([(li, .inr (1, [.int (zI (mo)), .ref d0, .int (zI (((0 : Nat) : Int)))]))]) sz)) 1 10 (va_A ([(li, .inr (1, [.int (zI (mo)), .ref d0, .int (zI (((0 : Nat) : Int)))]))]) sz) := by
  refine Met.ofW (cc := cJx4a65c_add_72be8) (maxL := 4) (ret := none) (by decide) rfl ?_
  intro p e s m args below meth c s₁ B hml hv
  obtain ⟨rfl, hsz, hP, hK, hD0, hJ, hO⟩ := hv
  have hx := B.exec
  have hb := B.bytes
  have hr := B.returns
  have hts := atoms_spec (ws := wsJx4a65c_add_72be8) B.pre
  have hown : s.vm.findClass RJx4a65c = some m.cls := findClass_of_methodNamed B.named
  have hlocks := B.notSynchronized
  subst hsz
  have hD := hD0.self (sz := s.heap.size)
  generalize hAe : va_A ([(li, .inr (1, [.int (zI (mo)), .ref d0, .int (zI (((0 : Nat) : Int)))]))]) s.heap.size = AA at hD hJ hO ⊢
  have hA : ∀ q : Nat, s.heap.size ≤ q → AA q := fun q h => by rw [← hAe]; exact Or.inr h
  have hS : va_S AA s.heap s.heap [] := va_S.rf
  have hP : va_P D vwCl ([(li, .inr (1, [.int (zI (mo)), .ref d0, .int (zI (((0 : Nat) : Int)))]))]) s.heap := hP
  have hl := lv_entry ([.ref li, .ref y, .ref d0, .int (zI (((0 : Nat) : Int)))]) (n := 4) (Nat.le_of_ble_eq_true rfl)
  rw [lg_entry_eq]
  generalize (lg_sl ([.ref li, .ref y, .ref d0, .int (zI (((0 : Nat) : Int)))]) ++ List.replicate (4 - (lg_sl ([.ref li, .ref y, .ref d0, .int (zI (((0 : Nat) : Int)))])).length) Slot.unset).toArray = ls at hl ⊢
  have hl : lv_has ls 4 [(0, .ref li), (1, .ref y), (2, .ref d0), (3, .int (zI (((0 : Nat) : Int))))] := hl
  have iJx4a65c : ∀ w ∈ u_ws RJx4a65c TJx4a65c 3, w ∈ wsJx4a65c_add_72be8 := by decide +kernel
  refine lv_iload_n hx hb dJx4a65c_add_72be8_0 rfl (lv_at hl 3 rfl) ?_
  refine lv_aload_n hx hb dJx4a65c_add_72be8_1 rfl (lv_at hl 2 rfl) ?_
  refine va_tlen (v := zI (((0 : Nat) : Int))) hx hb hJ.2.2.2.2.2.1 hS rfl dJx4a65c_add_72be8_2 ?_
  refine z_icmp_ne (tgt := 11) hx hb dJx4a65c_add_72be8_3 (by decide) (by omega) (by omega) (fun c3 => ?_) (fun c3 => ?_)
  · exact absurd rfl c3
  · refine lv_aload_n hx hb dJx4a65c_add_72be8_6 rfl (lv_at hl 0 rfl) ?_
    have hPc := hP.sub (ws' := [(li, .inr (1, [.int (zI (mo)), .ref d0, .int (zI (((0 : Nat) : Int)))]))]) [0] rfl
    have hDc := hD.sub (ws' := [(li, .inr (1, [.int (zI (mo)), .ref d0, .int (zI (((0 : Nat) : Int)))]))]) [0] (by decide) rfl
    have hFc := va_free (wc := [(li, .inr (1, [.int (zI (mo)), .ref d0, .int (zI (((0 : Nat) : Int)))]))]) hD hS hA [0] rfl
    refine va_callr (va_runV (As := []) (rest := []) ⟨hx, hb, hml, hown, hts⟩ (c_grow l D t s.heap.size ad d0 tc li mo) (cwV 0 hts gJx4a65c_add_72be8_Jx4a65c_grow_d5877 rfl rfl rfl (by decide +kernel) ⟨Nat.le_of_ble_eq_true rfl, Nat.le_of_ble_eq_true rfl⟩) ⟨fun a U g mk q => by obtain ⟨q0, q1, qP, qK, qD, qS0⟩ := q; exact ⟨q0, q1, qP, va_K.moved (u := U) (U := U.calling g mk a) (Vm.Alike.refl U.vm) qK, qD, qS0.moved (u := U) (U := U.calling g mk a) (Vm.Alike.refl U.vm)⟩, va_recv hK hPc (ci := 1) (q0 := 0) rfl rfl, fun U hU hW => ⟨rfl, by rw [hU], by rw [hU]; exact hPc, va_K.moved hW.alike hK, hDc.weaken (fun _ _ _ _ => trivial), by rw [hU]; exact (((hJ.kept hS.2.1).narrow hFc)).moved hW.alike⟩⟩ rfl rfl hl.1 rfl (lv_room (Nat.le_of_ble_eq_true rfl)) dJx4a65c_add_72be8_7 ⟨Nat.le_of_ble_eq_true rfl, Nat.le_of_ble_eq_true rfl⟩) hS (fun q _ h => hFc q h) hFc (fun u r tq H1 locs ht hvm hr7 hB hz1 hk1 hS => ?_)
    obtain ⟨hP1, hK1, hD1⟩ := hB
    rw [ht] at hP1
    obtain ⟨hP, hD⟩ := va_join (wr := []) (w1 := [(li, .inr (1, [.int (zI (mo)), .ref r, .int (zI (((0 : Nat) : Int)))])), aQ t 6 r 10 (fun _ => none)]) hP hD [0] [] rfl rfl (by decide) (by decide) hk1 hFc hP1 hD1
    generalize H1 = H at hP hS ⊢
    have hP : va_P D vwCl [(li, .inr (1, [.int (zI (mo)), .ref r, .int (zI (((0 : Nat) : Int)))])), aQ t 6 r 10 (fun _ => none)] H := hP
    have hD : va_D AA [(li, .inr (1, [.int (zI (mo)), .ref r, .int (zI (((0 : Nat) : Int)))])), aQ t 6 r 10 (fun _ => none)] := hD
    try dsimp only at hr7
    refine lv_astore_n (lv' := [(2, .ref r), (0, .ref li), (1, .ref y), (3, .int (zI (((0 : Nat) : Int))))]) hx hb dJx4a65c_add_72be8_10 rfl hl (by decide) rfl (fun ls hl => ?_)
    refine lv_aload_n hx hb dJx4a65c_add_72be8_11 rfl (lv_at hl 0 rfl) ?_
    refine lv_iload_n hx hb dJx4a65c_add_72be8_12 rfl (lv_at hl 3 rfl) ?_
    refine lv_aload_n hx hb dJx4a65c_add_72be8_13 rfl (lv_at hl 2 rfl) ?_
    refine q_astO (C := "java/lang/Integer") hx hb hK hP hD hS 1 6 rfl rfl hO hJ.2.2.2.2.2.2.2 (0) (by omega) (by omega) (by omega) dJx4a65c_add_72be8_14 (fun H locs hP hD hS => ?_)
    have hP : va_P D vwCl [(li, .inr (1, [.int (zI (mo)), .ref r, .int (zI (((0 : Nat) : Int)))])), aQ t 6 r 10 (va_up (fun _ => none) (0) (some (y)))] H := hP
    have hD : va_D AA [(li, .inr (1, [.int (zI (mo)), .ref r, .int (zI (((0 : Nat) : Int)))])), aQ t 6 r 10 (va_up (fun _ => none) (0) (some (y)))] := hD
    refine lv_aload_n hx hb dJx4a65c_add_72be8_15 rfl (lv_at hl 1 rfl) ?_
    refine lv_iload_n hx hb dJx4a65c_add_72be8_16 rfl (lv_at hl 3 rfl) ?_
    refine lv_iconst (v := zI 1) hx hb dJx4a65c_add_72be8_17 rfl ?_
    refine z_iadd hx hb dJx4a65c_add_72be8_18 ?_
    refine z_re (e2 := ((1 : Nat) : Int)) (rfl) ?_
    refine va_put (D := D) (ci := 1) (v := .int (zI (((1 : Nat) : Int)))) (ty := .int) (C := RJx4a65c) (T := TJx4a65c) (N := 3) hx hb hts iJx4a65c tyJx4a65c tyJx4a65c_ok nmJx4a65c hown hK hP hD hS 0 rfl rfl 2 (by decide) (hts (.fieldLink RJx4a65c 48 "java/util/ArrayList" "size" "I") (by decide +kernel)) (fun _ h9 => h9) rfl (by decide +kernel) rfl rfl (Nat.le_of_ble_eq_true rfl) dJx4a65c_add_72be8_19 (fun H locs hP hD hS => ?_)
    have hP : va_P D vwCl [(li, .inr (1, [.int (zI (mo)), .ref r, .int (zI (((1 : Nat) : Int)))])), aQ t 6 r 10 (va_up (fun _ => none) (0) (some (y)))] H := hP
    have hD : va_D AA [(li, .inr (1, [.int (zI (mo)), .ref r, .int (zI (((1 : Nat) : Int)))])), aQ t 6 r 10 (va_up (fun _ => none) (0) (some (y)))] := hD
    have hP := hP.sub (ws' := [(li, .inr (1, [.int (zI (mo)), .ref r, .int (zI (((1 : Nat) : Int)))])), aQ t 6 r 10 (va_up (fun _ => none) 0 (some y))]) [0, 1] rfl
    have hD := hD.sub (ws' := [(li, .inr (1, [.int (zI (mo)), .ref r, .int (zI (((1 : Nat) : Int)))])), aQ t 6 r 10 (va_up (fun _ => none) 0 (some y))]) [0, 1] (by decide) rfl
    exact W.vret hx hb hr (fun tq ht hW => ⟨⟨(r), rfl, trivial, by rw [ht]; exact hP, va_K.moved hW.alike hK, hD⟩, hS.F ht⟩) hS.2.2 dJx4a65c_add_72be8_22

-- add, a further one
set_option maxHeartbeats 4000000 in
set_option maxRecDepth 100000 in
theorem c_add3_k (l : Launch) (D : va_G) (t : Nat → ClassId) (sz : Nat) (ad : Nat → Nat) (d0 tc : Nat) (li : Nat) (mo : Int) (y : Nat) (eA k : Nat) (f : Nat → Option Nat) (gk : 0 < k ∧ k < 10)  : Met l yJx4a65c_add_72be8 wsJx4a65c_add_72be8 ({ frames := 0, cells := 0, slots := 0, locals := 0 }) (va_Pc [.ref li, .ref y, .ref eA, .int (zI (((k : Nat) : Int)))] (fun U => U.heap.size = sz ∧ va_P D vwCl ([(li, .inr (1, [.int (zI (mo)), .ref eA, .int (zI (((k : Nat) : Int)))])), aQ t 6 eA 10 (f)]) U.heap ∧ va_K D vwCl (TY t) U ∧ va_D (fun _ => True) ([(li, .inr (1, [.int (zI (mo)), .ref eA, .int (zI (((k : Nat) : Int)))])), aQ t 6 eA 10 (f)]) ∧ jK ad d0 tc (va_A ([(li, .inr (1, [.int (zI (mo)), .ref eA, .int (zI (((k : Nat) : Int)))])), aQ t 6 eA 10 (f)]) sz) U U.heap ∧ va_O "java/lang/Integer" y (va_A ([(li, .inr (1, [.int (zI (mo)), .ref eA, .int (zI (((k : Nat) : Int)))])), aQ t 6 eA 10 (f)]) sz) U U.heap)) (va_Qv (fun (u : Unit) => True) (fun (u : Unit) t1 => va_P D vwCl ([(li, .inr (1, [.int (zI (mo)), .ref eA, .int (zI (((k + 1 : Nat) : Int)))])), aQ t 6 eA 10 (va_up f k (some y))]) t1.heap ∧ va_K D vwCl (TY t) t1 ∧ va_D (va_A ([(li, .inr (1, [.int (zI (mo)), .ref eA, .int (zI (((k : Nat) : Int)))])), aQ t 6 eA 10 (f)]) sz) ([(li, .inr (1, [.int (zI (mo)), .ref eA, .int (zI (((k + 1 : Nat) : Int)))])), aQ t 6 eA 10 (va_up f k (some y))])) (va_A ([(li, .inr (1, [.int (zI (mo)), .ref eA, .int (zI (((k : Nat) : Int)))])), aQ t 6 eA 10 (f)]) sz)) 0 0 (va_A ([(li, .inr (1, [.int (zI (mo)), .ref eA, .int (zI (((k : Nat) : Int)))])), aQ t 6 eA 10 (f)]) sz) := by
  refine Met.ofW (cc := cJx4a65c_add_72be8) (maxL := 4) (ret := none) (by decide) rfl ?_
  intro p e s m args below meth c s₁ B hml hv
  obtain ⟨rfl, hsz, hP, hK, hD0, hJ, hO⟩ := hv
  have hx := B.exec
  have hb := B.bytes
  have hr := B.returns
  have hts := atoms_spec (ws := wsJx4a65c_add_72be8) B.pre
  have hown : s.vm.findClass RJx4a65c = some m.cls := findClass_of_methodNamed B.named
  have hlocks := B.notSynchronized
  subst hsz
  have hD := hD0.self (sz := s.heap.size)
  generalize hAe : va_A ([(li, .inr (1, [.int (zI (mo)), .ref eA, .int (zI (((k : Nat) : Int)))])), aQ t 6 eA 10 (f)]) s.heap.size = AA at hD hJ hO ⊢
  have hA : ∀ q : Nat, s.heap.size ≤ q → AA q := fun q h => by rw [← hAe]; exact Or.inr h
  have hS : va_S AA s.heap s.heap [] := va_S.rf
  have hP : va_P D vwCl ([(li, .inr (1, [.int (zI (mo)), .ref eA, .int (zI (((k : Nat) : Int)))])), aQ t 6 eA 10 (f)]) s.heap := hP
  have hl := lv_entry ([.ref li, .ref y, .ref eA, .int (zI (((k : Nat) : Int)))]) (n := 4) (Nat.le_of_ble_eq_true rfl)
  rw [lg_entry_eq]
  generalize (lg_sl ([.ref li, .ref y, .ref eA, .int (zI (((k : Nat) : Int)))]) ++ List.replicate (4 - (lg_sl ([.ref li, .ref y, .ref eA, .int (zI (((k : Nat) : Int)))])).length) Slot.unset).toArray = ls at hl ⊢
  have hl : lv_has ls 4 [(0, .ref li), (1, .ref y), (2, .ref eA), (3, .int (zI (((k : Nat) : Int))))] := hl
  have iJx4a65c : ∀ w ∈ u_ws RJx4a65c TJx4a65c 3, w ∈ wsJx4a65c_add_72be8 := by decide +kernel
  refine lv_iload_n hx hb dJx4a65c_add_72be8_0 rfl (lv_at hl 3 rfl) ?_
  refine lv_aload_n hx hb dJx4a65c_add_72be8_1 rfl (lv_at hl 2 rfl) ?_
  refine va_alen (v := zI ((10 : Nat) : Int)) hx hb hK hP 1 6 rfl rfl (zI_nI _) dJx4a65c_add_72be8_2 ?_
  refine z_icmp_ne (tgt := 11) hx hb dJx4a65c_add_72be8_3 (by decide) (by omega) (by omega) (fun c3 => ?_) (fun c3 => ?_)
  · refine lv_aload_n hx hb dJx4a65c_add_72be8_11 rfl (lv_at hl 2 rfl) ?_
    refine lv_iload_n hx hb dJx4a65c_add_72be8_12 rfl (lv_at hl 3 rfl) ?_
    refine lv_aload_n hx hb dJx4a65c_add_72be8_13 rfl (lv_at hl 1 rfl) ?_
    refine q_astO (C := "java/lang/Integer") hx hb hK hP hD hS 1 6 rfl rfl hO hJ.2.2.2.2.2.2.2 (k) (by omega) (by omega) (by omega) dJx4a65c_add_72be8_14 (fun H locs hP hD hS => ?_)
    have hP : va_P D vwCl [(li, .inr (1, [.int (zI (mo)), .ref eA, .int (zI (((k : Nat) : Int)))])), aQ t 6 eA 10 (va_up (f) (k) (some (y)))] H := hP
    have hD : va_D AA [(li, .inr (1, [.int (zI (mo)), .ref eA, .int (zI (((k : Nat) : Int)))])), aQ t 6 eA 10 (va_up (f) (k) (some (y)))] := hD
    refine lv_aload_n hx hb dJx4a65c_add_72be8_15 rfl (lv_at hl 0 rfl) ?_
    refine lv_iload_n hx hb dJx4a65c_add_72be8_16 rfl (lv_at hl 3 rfl) ?_
    refine lv_iconst (v := zI 1) hx hb dJx4a65c_add_72be8_17 rfl ?_
    refine z_iadd hx hb dJx4a65c_add_72be8_18 ?_
    refine z_re (e2 := ((k + 1 : Nat) : Int)) (rfl) ?_
    refine va_put (D := D) (ci := 1) (v := .int (zI (((k + 1 : Nat) : Int)))) (ty := .int) (C := RJx4a65c) (T := TJx4a65c) (N := 3) hx hb hts iJx4a65c tyJx4a65c tyJx4a65c_ok nmJx4a65c hown hK hP hD hS 0 rfl rfl 2 (by decide) (hts (.fieldLink RJx4a65c 48 "java/util/ArrayList" "size" "I") (by decide +kernel)) (fun _ h9 => h9) rfl (by decide +kernel) rfl rfl (Nat.le_of_ble_eq_true rfl) dJx4a65c_add_72be8_19 (fun H locs hP hD hS => ?_)
    have hP : va_P D vwCl [(li, .inr (1, [.int (zI (mo)), .ref eA, .int (zI (((k + 1 : Nat) : Int)))])), aQ t 6 eA 10 (va_up (f) (k) (some (y)))] H := hP
    have hD : va_D AA [(li, .inr (1, [.int (zI (mo)), .ref eA, .int (zI (((k + 1 : Nat) : Int)))])), aQ t 6 eA 10 (va_up (f) (k) (some (y)))] := hD
    have hP := hP.sub (ws' := [(li, .inr (1, [.int (zI (mo)), .ref eA, .int (zI (((k + 1 : Nat) : Int)))])), aQ t 6 eA 10 (va_up f k (some y))]) [0, 1] rfl
    have hD := hD.sub (ws' := [(li, .inr (1, [.int (zI (mo)), .ref eA, .int (zI (((k + 1 : Nat) : Int)))])), aQ t 6 eA 10 (va_up f k (some y))]) [0, 1] (by decide) rfl
    exact W.vret hx hb hr (fun tq ht hW => ⟨⟨(), rfl, trivial, by rw [ht]; exact hP, va_K.moved hW.alike hK, hD⟩, hS.F ht⟩) hS.2.2 dJx4a65c_add_72be8_22
  · omega

-- add(y), the first
set_option maxHeartbeats 4000000 in
set_option maxRecDepth 100000 in
theorem c_add_0 (l : Launch) (D : va_G) (t : Nat → ClassId) (sz : Nat) (ad : Nat → Nat) (d0 tc : Nat) (li : Nat) (mo : Int) (y : Nat)  : Met l yJx4a65c_add_9ea2d wsJx4a65c_add_9ea2d ({ frames := 4, cells := 1, slots := 10, locals := 90 }) (va_Pc [.ref li, .ref y] (fun U => U.heap.size = sz ∧ va_P D vwCl ([(li, .inr (1, [.int (zI (mo)), .ref d0, .int (zI (((0 : Nat) : Int)))]))]) U.heap ∧ va_K D vwCl (TY t) U ∧ va_D (fun _ => True) ([(li, .inr (1, [.int (zI (mo)), .ref d0, .int (zI (((0 : Nat) : Int)))]))]) ∧ jK ad d0 tc (va_A ([(li, .inr (1, [.int (zI (mo)), .ref d0, .int (zI (((0 : Nat) : Int)))]))]) sz) U U.heap ∧ va_O "java/lang/Integer" y (va_A ([(li, .inr (1, [.int (zI (mo)), .ref d0, .int (zI (((0 : Nat) : Int)))]))]) sz) U U.heap)) (va_Qi (fun r (u : Nat) => True) (fun (u : Nat) t1 => va_P D vwCl ([(li, .inr (1, [.int (zI (mo + 1)), .ref u, .int (zI (((1 : Nat) : Int)))])), aQ t 6 u 10 (va_up (fun _ => none) 0 (some y))]) t1.heap ∧ va_K D vwCl (TY t) t1 ∧ va_D (va_A ([(li, .inr (1, [.int (zI (mo)), .ref d0, .int (zI (((0 : Nat) : Int)))]))]) sz) ([(li, .inr (1, [.int (zI (mo + 1)), .ref u, .int (zI (((1 : Nat) : Int)))])), aQ t 6 u 10 (va_up (fun _ => none) 0 (some y))])) (va_A ([(li, .inr (1, [.int (zI (mo)), .ref d0, .int (zI (((0 : Nat) : Int)))]))]) sz)) 1 10 (va_A ([(li, .inr (1, [.int (zI (mo)), .ref d0, .int (zI (((0 : Nat) : Int)))]))]) sz) := by
  refine Met.ofW (cc := cJx4a65c_add_9ea2d) (maxL := 2) (ret := (some .boolean)) (by decide) rfl ?_
  intro p e s m args below meth c s₁ B hml hv
  obtain ⟨rfl, hsz, hP, hK, hD0, hJ, hO⟩ := hv
  have hx := B.exec
  have hb := B.bytes
  have hr := B.returns
  have hts := atoms_spec (ws := wsJx4a65c_add_9ea2d) B.pre
  have hown : s.vm.findClass RJx4a65c = some m.cls := findClass_of_methodNamed B.named
  have hlocks := B.notSynchronized
  subst hsz
  have hD := hD0.self (sz := s.heap.size)
  generalize hAe : va_A ([(li, .inr (1, [.int (zI (mo)), .ref d0, .int (zI (((0 : Nat) : Int)))]))]) s.heap.size = AA at hD hJ hO ⊢
  have hA : ∀ q : Nat, s.heap.size ≤ q → AA q := fun q h => by rw [← hAe]; exact Or.inr h
  have hS : va_S AA s.heap s.heap [] := va_S.rf
  have hP : va_P D vwCl ([(li, .inr (1, [.int (zI (mo)), .ref d0, .int (zI (((0 : Nat) : Int)))]))]) s.heap := hP
  have hl := lv_entry ([.ref li, .ref y]) (n := 2) (Nat.le_of_ble_eq_true rfl)
  rw [lg_entry_eq]
  generalize (lg_sl ([.ref li, .ref y]) ++ List.replicate (2 - (lg_sl ([.ref li, .ref y])).length) Slot.unset).toArray = ls at hl ⊢
  have hl : lv_has ls 2 [(0, .ref li), (1, .ref y)] := hl
  have iJx4a65c : ∀ w ∈ u_ws RJx4a65c TJx4a65c 3, w ∈ wsJx4a65c_add_9ea2d := by decide +kernel
  refine lv_aload_n hx hb dJx4a65c_add_9ea2d_0 rfl (lv_at hl 0 rfl) ?_
  refine lv_dup hx hb dJx4a65c_add_9ea2d_1 rfl ?_
  refine va_get (D := D) (ci := 1) (v := .int (zI (mo))) (C := RJx4a65c) (T := TJx4a65c) (N := 3) hx hb hts iJx4a65c hown hK hP 0 rfl rfl 0 (by decide) (hts (.fieldLink RJx4a65c 63 "java/util/ArrayList" "modCount" "I") (by decide +kernel)) (fun x9 h9 => u_same (hts (.sameField "java/util/ArrayList" "java/util/AbstractList" "modCount" "I") (by decide +kernel)) x9 h9) rfl dJx4a65c_add_9ea2d_2 ?_
  refine lv_iconst (v := zI 1) hx hb dJx4a65c_add_9ea2d_5 rfl ?_
  refine z_iadd hx hb dJx4a65c_add_9ea2d_6 ?_
  refine va_put (D := D) (ci := 1) (v := .int (zI ((mo) + (1)))) (ty := .int) (C := RJx4a65c) (T := TJx4a65c) (N := 3) hx hb hts iJx4a65c tyJx4a65c tyJx4a65c_ok nmJx4a65c hown hK hP hD hS 0 rfl rfl 0 (by decide) (hts (.fieldLink RJx4a65c 63 "java/util/ArrayList" "modCount" "I") (by decide +kernel)) (fun x9 h9 => u_same (hts (.sameField "java/util/ArrayList" "java/util/AbstractList" "modCount" "I") (by decide +kernel)) x9 h9) rfl (by decide +kernel) rfl rfl (Nat.le_of_ble_eq_true rfl) dJx4a65c_add_9ea2d_7 (fun H locs hP hD hS => ?_)
  have hP : va_P D vwCl [(li, .inr (1, [.int (zI ((mo) + (1))), .ref d0, .int (zI (((0 : Nat) : Int)))]))] H := hP
  have hD : va_D AA [(li, .inr (1, [.int (zI ((mo) + (1))), .ref d0, .int (zI (((0 : Nat) : Int)))]))] := hD
  refine lv_aload_n hx hb dJx4a65c_add_9ea2d_10 rfl (lv_at hl 0 rfl) ?_
  refine lv_aload_n hx hb dJx4a65c_add_9ea2d_11 rfl (lv_at hl 1 rfl) ?_
  refine lv_aload_n hx hb dJx4a65c_add_9ea2d_12 rfl (lv_at hl 0 rfl) ?_
  refine va_get (D := D) (ci := 1) (v := .ref d0) (C := RJx4a65c) (T := TJx4a65c) (N := 3) hx hb hts iJx4a65c hown hK hP 0 rfl rfl 1 (by decide) (hts (.fieldLink RJx4a65c 9 "java/util/ArrayList" "elementData" "[Ljava/lang/Object;") (by decide +kernel)) (fun _ h9 => h9) rfl dJx4a65c_add_9ea2d_13 ?_
  refine lv_aload_n hx hb dJx4a65c_add_9ea2d_16 rfl (lv_at hl 0 rfl) ?_
  refine va_get (D := D) (ci := 1) (v := .int (zI (((0 : Nat) : Int)))) (C := RJx4a65c) (T := TJx4a65c) (N := 3) hx hb hts iJx4a65c hown hK hP 0 rfl rfl 2 (by decide) (hts (.fieldLink RJx4a65c 48 "java/util/ArrayList" "size" "I") (by decide +kernel)) (fun _ h9 => h9) rfl dJx4a65c_add_9ea2d_17 ?_
  have hPc := hP.sub (ws' := [(li, .inr (1, [.int (zI ((mo) + (1))), .ref d0, .int (zI (((0 : Nat) : Int)))]))]) [0] rfl
  have hDc := hD.sub (ws' := [(li, .inr (1, [.int (zI ((mo) + (1))), .ref d0, .int (zI (((0 : Nat) : Int)))]))]) [0] (by decide) rfl
  have hFc := va_free (wc := [(li, .inr (1, [.int (zI ((mo) + (1))), .ref d0, .int (zI (((0 : Nat) : Int)))]))]) hD hS hA [0] rfl
  refine va_callv (va_runV (As := [.ref y, .ref d0, .int (zI (((0 : Nat) : Int)))]) (rest := []) ⟨hx, hb, hml, hown, hts⟩ (c_add3_0 l D t H.size ad d0 tc li (mo + 1) y) (cwV 3 hts gJx4a65c_add_9ea2d_Jx4a65c_add_72be8 rfl rfl rfl (by decide +kernel) ⟨Nat.le_of_ble_eq_true rfl, Nat.le_of_ble_eq_true rfl⟩) ⟨fun a U g mk q => by obtain ⟨q0, q1, qP, qK, qD, qS0, qS1⟩ := q; exact ⟨q0, q1, qP, va_K.moved (u := U) (U := U.calling g mk a) (Vm.Alike.refl U.vm) qK, qD, qS0.moved (u := U) (U := U.calling g mk a) (Vm.Alike.refl U.vm), qS1.moved (u := U) (U := U.calling g mk a) (Vm.Alike.refl U.vm)⟩, va_recv hK hPc (ci := 1) (q0 := 0) rfl rfl, fun U hU hW => ⟨rfl, by rw [hU], by rw [hU]; exact hPc, va_K.moved hW.alike hK, hDc.weaken (fun _ _ _ _ => trivial), by rw [hU]; exact (((hJ.kept hS.2.1).narrow hFc)).moved hW.alike, by rw [hU]; exact (((hO.kept hS.2.1).narrow hFc)).moved hW.alike⟩⟩ rfl rfl hl.1 rfl (lv_room (Nat.le_of_ble_eq_true rfl)) dJx4a65c_add_9ea2d_20 ⟨Nat.le_of_ble_eq_true rfl, Nat.le_of_ble_eq_true rfl⟩) hS (fun q _ h => hFc q h) hFc (fun u tq H1 locs ht hvm hr20 hB hz1 hk1 hS => ?_)
  obtain ⟨e20, rfl⟩ : ∃ z, z = u := ⟨_, rfl⟩
  obtain ⟨hP1, hK1, hD1⟩ := hB
  rw [ht] at hP1
  obtain ⟨hP, hD⟩ := va_join (wr := []) (w1 := [(li, .inr (1, [.int (zI ((mo + 1))), .ref e20, .int (zI (((1 : Nat) : Int)))])), aQ t 6 e20 10 (va_up (fun _ => none) 0 (some y))]) hP hD [0] [] rfl rfl (by decide) (by decide) hk1 hFc hP1 hD1
  generalize H1 = H at hP hS ⊢
  have hP : va_P D vwCl [(li, .inr (1, [.int (zI ((mo + 1))), .ref e20, .int (zI (((1 : Nat) : Int)))])), aQ t 6 e20 10 (va_up (fun _ => none) 0 (some y))] H := hP
  have hD : va_D AA [(li, .inr (1, [.int (zI ((mo + 1))), .ref e20, .int (zI (((1 : Nat) : Int)))])), aQ t 6 e20 10 (va_up (fun _ => none) 0 (some y))] := hD
  try dsimp only at hr20
  refine lv_iconst (v := zI 1) hx hb dJx4a65c_add_9ea2d_23 rfl ?_
  have hP := hP.sub (ws' := [(li, .inr (1, [.int (zI (mo + 1)), .ref e20, .int (zI (((1 : Nat) : Int)))])), aQ t 6 e20 10 (va_up (fun _ => none) 0 (some y))]) [0, 1] rfl
  have hD := hD.sub (ws' := [(li, .inr (1, [.int (zI (mo + 1)), .ref e20, .int (zI (((1 : Nat) : Int)))])), aQ t 6 e20 10 (va_up (fun _ => none) 0 (some y))]) [0, 1] (by decide) rfl
  exact W.zret (v := (zI (1))) hx hb hr (nar_b _ (by first | exact Or.inl rfl | exact Or.inr rfl | exact bP_or _)) (fun tq ht hW => ⟨⟨_, (e20), rfl, trivial, by rw [ht]; exact hP, va_K.moved hW.alike hK, hD⟩, hS.F ht⟩) hS.2.2 dJx4a65c_add_9ea2d_24

-- add(y), a further one
set_option maxHeartbeats 4000000 in
set_option maxRecDepth 100000 in
theorem c_add_k (l : Launch) (D : va_G) (t : Nat → ClassId) (sz : Nat) (ad : Nat → Nat) (d0 tc : Nat) (li : Nat) (mo : Int) (y : Nat) (eA k : Nat) (f : Nat → Option Nat) (gk : 0 < k ∧ k < 10)  : Met l yJx4a65c_add_9ea2d wsJx4a65c_add_9ea2d ({ frames := 1, cells := 0, slots := 0, locals := 23 }) (va_Pc [.ref li, .ref y] (fun U => U.heap.size = sz ∧ va_P D vwCl ([(li, .inr (1, [.int (zI (mo)), .ref eA, .int (zI (((k : Nat) : Int)))])), aQ t 6 eA 10 (f)]) U.heap ∧ va_K D vwCl (TY t) U ∧ va_D (fun _ => True) ([(li, .inr (1, [.int (zI (mo)), .ref eA, .int (zI (((k : Nat) : Int)))])), aQ t 6 eA 10 (f)]) ∧ jK ad d0 tc (va_A ([(li, .inr (1, [.int (zI (mo)), .ref eA, .int (zI (((k : Nat) : Int)))])), aQ t 6 eA 10 (f)]) sz) U U.heap ∧ va_O "java/lang/Integer" y (va_A ([(li, .inr (1, [.int (zI (mo)), .ref eA, .int (zI (((k : Nat) : Int)))])), aQ t 6 eA 10 (f)]) sz) U U.heap)) (va_Qi (fun r (u : Unit) => True) (fun (u : Unit) t1 => va_P D vwCl ([(li, .inr (1, [.int (zI (mo + 1)), .ref eA, .int (zI (((k + 1 : Nat) : Int)))])), aQ t 6 eA 10 (va_up f k (some y))]) t1.heap ∧ va_K D vwCl (TY t) t1 ∧ va_D (va_A ([(li, .inr (1, [.int (zI (mo)), .ref eA, .int (zI (((k : Nat) : Int)))])), aQ t 6 eA 10 (f)]) sz) ([(li, .inr (1, [.int (zI (mo + 1)), .ref eA, .int (zI (((k + 1 : Nat) : Int)))])), aQ t 6 eA 10 (va_up f k (some y))])) (va_A ([(li, .inr (1, [.int (zI (mo)), .ref eA, .int (zI (((k : Nat) : Int)))])), aQ t 6 eA 10 (f)]) sz)) 0 0 (va_A ([(li, .inr (1, [.int (zI (mo)), .ref eA, .int (zI (((k : Nat) : Int)))])), aQ t 6 eA 10 (f)]) sz) := by
  refine Met.ofW (cc := cJx4a65c_add_9ea2d) (maxL := 2) (ret := (some .boolean)) (by decide) rfl ?_
  intro p e s m args below meth c s₁ B hml hv
  obtain ⟨rfl, hsz, hP, hK, hD0, hJ, hO⟩ := hv
  have hx := B.exec
  have hb := B.bytes
  have hr := B.returns
  have hts := atoms_spec (ws := wsJx4a65c_add_9ea2d) B.pre
  have hown : s.vm.findClass RJx4a65c = some m.cls := findClass_of_methodNamed B.named
  have hlocks := B.notSynchronized
  subst hsz
  have hD := hD0.self (sz := s.heap.size)
  generalize hAe : va_A ([(li, .inr (1, [.int (zI (mo)), .ref eA, .int (zI (((k : Nat) : Int)))])), aQ t 6 eA 10 (f)]) s.heap.size = AA at hD hJ hO ⊢
  have hA : ∀ q : Nat, s.heap.size ≤ q → AA q := fun q h => by rw [← hAe]; exact Or.inr h
  have hS : va_S AA s.heap s.heap [] := va_S.rf
  have hP : va_P D vwCl ([(li, .inr (1, [.int (zI (mo)), .ref eA, .int (zI (((k : Nat) : Int)))])), aQ t 6 eA 10 (f)]) s.heap := hP
  have hl := lv_entry ([.ref li, .ref y]) (n := 2) (Nat.le_of_ble_eq_true rfl)
  rw [lg_entry_eq]
  generalize (lg_sl ([.ref li, .ref y]) ++ List.replicate (2 - (lg_sl ([.ref li, .ref y])).length) Slot.unset).toArray = ls at hl ⊢
  have hl : lv_has ls 2 [(0, .ref li), (1, .ref y)] := hl
  have iJx4a65c : ∀ w ∈ u_ws RJx4a65c TJx4a65c 3, w ∈ wsJx4a65c_add_9ea2d := by decide +kernel
  refine lv_aload_n hx hb dJx4a65c_add_9ea2d_0 rfl (lv_at hl 0 rfl) ?_
  refine lv_dup hx hb dJx4a65c_add_9ea2d_1 rfl ?_
  refine va_get (D := D) (ci := 1) (v := .int (zI (mo))) (C := RJx4a65c) (T := TJx4a65c) (N := 3) hx hb hts iJx4a65c hown hK hP 0 rfl rfl 0 (by decide) (hts (.fieldLink RJx4a65c 63 "java/util/ArrayList" "modCount" "I") (by decide +kernel)) (fun x9 h9 => u_same (hts (.sameField "java/util/ArrayList" "java/util/AbstractList" "modCount" "I") (by decide +kernel)) x9 h9) rfl dJx4a65c_add_9ea2d_2 ?_
  refine lv_iconst (v := zI 1) hx hb dJx4a65c_add_9ea2d_5 rfl ?_
  refine z_iadd hx hb dJx4a65c_add_9ea2d_6 ?_
  refine va_put (D := D) (ci := 1) (v := .int (zI ((mo) + (1)))) (ty := .int) (C := RJx4a65c) (T := TJx4a65c) (N := 3) hx hb hts iJx4a65c tyJx4a65c tyJx4a65c_ok nmJx4a65c hown hK hP hD hS 0 rfl rfl 0 (by decide) (hts (.fieldLink RJx4a65c 63 "java/util/ArrayList" "modCount" "I") (by decide +kernel)) (fun x9 h9 => u_same (hts (.sameField "java/util/ArrayList" "java/util/AbstractList" "modCount" "I") (by decide +kernel)) x9 h9) rfl (by decide +kernel) rfl rfl (Nat.le_of_ble_eq_true rfl) dJx4a65c_add_9ea2d_7 (fun H locs hP hD hS => ?_)
  have hP : va_P D vwCl [(li, .inr (1, [.int (zI ((mo) + (1))), .ref eA, .int (zI (((k : Nat) : Int)))])), aQ t 6 eA 10 (f)] H := hP
  have hD : va_D AA [(li, .inr (1, [.int (zI ((mo) + (1))), .ref eA, .int (zI (((k : Nat) : Int)))])), aQ t 6 eA 10 (f)] := hD
  refine lv_aload_n hx hb dJx4a65c_add_9ea2d_10 rfl (lv_at hl 0 rfl) ?_
  refine lv_aload_n hx hb dJx4a65c_add_9ea2d_11 rfl (lv_at hl 1 rfl) ?_
  refine lv_aload_n hx hb dJx4a65c_add_9ea2d_12 rfl (lv_at hl 0 rfl) ?_
  refine va_get (D := D) (ci := 1) (v := .ref eA) (C := RJx4a65c) (T := TJx4a65c) (N := 3) hx hb hts iJx4a65c hown hK hP 0 rfl rfl 1 (by decide) (hts (.fieldLink RJx4a65c 9 "java/util/ArrayList" "elementData" "[Ljava/lang/Object;") (by decide +kernel)) (fun _ h9 => h9) rfl dJx4a65c_add_9ea2d_13 ?_
  refine lv_aload_n hx hb dJx4a65c_add_9ea2d_16 rfl (lv_at hl 0 rfl) ?_
  refine va_get (D := D) (ci := 1) (v := .int (zI (((k : Nat) : Int)))) (C := RJx4a65c) (T := TJx4a65c) (N := 3) hx hb hts iJx4a65c hown hK hP 0 rfl rfl 2 (by decide) (hts (.fieldLink RJx4a65c 48 "java/util/ArrayList" "size" "I") (by decide +kernel)) (fun _ h9 => h9) rfl dJx4a65c_add_9ea2d_17 ?_
  have hPc := hP.sub (ws' := [(li, .inr (1, [.int (zI ((mo) + (1))), .ref eA, .int (zI (((k : Nat) : Int)))])), aQ t 6 eA 10 (f)]) [0, 1] rfl
  have hDc := hD.sub (ws' := [(li, .inr (1, [.int (zI ((mo) + (1))), .ref eA, .int (zI (((k : Nat) : Int)))])), aQ t 6 eA 10 (f)]) [0, 1] (by decide) rfl
  have hFc := va_free (wc := [(li, .inr (1, [.int (zI ((mo) + (1))), .ref eA, .int (zI (((k : Nat) : Int)))])), aQ t 6 eA 10 (f)]) hD hS hA [0, 1] rfl
  refine va_callv (va_runV (As := [.ref y, .ref eA, .int (zI (((k : Nat) : Int)))]) (rest := []) ⟨hx, hb, hml, hown, hts⟩ (c_add3_k l D t H.size ad d0 tc li (mo + 1) y eA k f gk) (cwV 3 hts gJx4a65c_add_9ea2d_Jx4a65c_add_72be8 rfl rfl rfl (by decide +kernel) ⟨Nat.le_of_ble_eq_true rfl, Nat.le_of_ble_eq_true rfl⟩) ⟨fun a U g mk q => by obtain ⟨q0, q1, qP, qK, qD, qS0, qS1⟩ := q; exact ⟨q0, q1, qP, va_K.moved (u := U) (U := U.calling g mk a) (Vm.Alike.refl U.vm) qK, qD, qS0.moved (u := U) (U := U.calling g mk a) (Vm.Alike.refl U.vm), qS1.moved (u := U) (U := U.calling g mk a) (Vm.Alike.refl U.vm)⟩, va_recv hK hPc (ci := 1) (q0 := 0) rfl rfl, fun U hU hW => ⟨rfl, by rw [hU], by rw [hU]; exact hPc, va_K.moved hW.alike hK, hDc.weaken (fun _ _ _ _ => trivial), by rw [hU]; exact (((hJ.kept hS.2.1).narrow hFc)).moved hW.alike, by rw [hU]; exact (((hO.kept hS.2.1).narrow hFc)).moved hW.alike⟩⟩ rfl rfl hl.1 rfl (lv_room (Nat.le_of_ble_eq_true rfl)) dJx4a65c_add_9ea2d_20 ⟨Nat.le_of_ble_eq_true rfl, Nat.le_of_ble_eq_true rfl⟩) hS (fun q _ h => hFc q h) hFc (fun u tq H1 locs ht hvm hr20 hB hz1 hk1 hS => ?_)
  obtain ⟨hP1, hK1, hD1⟩ := hB
  rw [ht] at hP1
  obtain ⟨hP, hD⟩ := va_join (wr := []) (w1 := [(li, .inr (1, [.int (zI ((mo + 1))), .ref eA, .int (zI (((k + 1 : Nat) : Int)))])), aQ t 6 eA 10 (va_up f k (some y))]) hP hD [0, 1] [] rfl rfl (by decide) (by decide) hk1 hFc hP1 hD1
  generalize H1 = H at hP hS ⊢
  have hP : va_P D vwCl [(li, .inr (1, [.int (zI ((mo + 1))), .ref eA, .int (zI (((k + 1 : Nat) : Int)))])), aQ t 6 eA 10 (va_up f k (some y))] H := hP
  have hD : va_D AA [(li, .inr (1, [.int (zI ((mo + 1))), .ref eA, .int (zI (((k + 1 : Nat) : Int)))])), aQ t 6 eA 10 (va_up f k (some y))] := hD
  try dsimp only at hr20
  refine lv_iconst (v := zI 1) hx hb dJx4a65c_add_9ea2d_23 rfl ?_
  have hP := hP.sub (ws' := [(li, .inr (1, [.int (zI (mo + 1)), .ref eA, .int (zI (((k + 1 : Nat) : Int)))])), aQ t 6 eA 10 (va_up f k (some y))]) [0, 1] rfl
  have hD := hD.sub (ws' := [(li, .inr (1, [.int (zI (mo + 1)), .ref eA, .int (zI (((k + 1 : Nat) : Int)))])), aQ t 6 eA 10 (va_up f k (some y))]) [0, 1] (by decide) rfl
  exact W.zret (v := (zI (1))) hx hb hr (nar_b _ (by first | exact Or.inl rfl | exact Or.inr rfl | exact bP_or _)) (fun tq ht hW => ⟨⟨_, (), rfl, trivial, by rw [ht]; exact hP, va_K.moved hW.alike hK, hD⟩, hS.F ht⟩) hS.2.2 dJx4a65c_add_9ea2d_24
