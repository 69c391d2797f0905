/-! the pairs of the class -/
def TT (t : Nat → ClassId) (eA k : Nat) (f : Nat → Option Nat) (LP : List Nat) (pv : Nat → Int32) : va_W := if k = 0 then [] else aQ t 6 eA 10 f :: PT LP pv
theorem TT_z (t : Nat → ClassId) (eA : Nat) (f : Nat → Option Nat) (LP : List Nat) (pv : Nat → Int32) : TT t eA 0 f LP pv = [] := rfl
theorem TT_k (t : Nat → ClassId) (eA : Nat) (f : Nat → Option Nat) (LP : List Nat) (pv : Nat → Int32) {k : Nat} (h : 0 < k) : TT t eA k f LP pv = aQ t 6 eA 10 f :: PT LP pv := if_neg (by omega)
def lsOK (ad : Nat → Nat) (LP : List Nat) (pv : Nat → Int32) (f : Nat → Option Nat) (cs : List Nat) : Prop := ∀ i c : Nat, cs[i]? = some c → ∃ y, f i = some y ∧ vb_bx LP pv ad y (zI (c : Int))
theorem lsOK_nil (ad : Nat → Nat) (LP : List Nat) (pv : Nat → Int32) (f : Nat → Option Nat) : lsOK ad LP pv f [] := fun i c h => by simp at h
theorem lsOK_app {ad : Nat → Nat} {LP LP' : List Nat} {pv pv' : Nat → Int32} {f : Nat → Option Nat} {cs : List Nat} {k c y : Nat} (h : lsOK ad LP pv f cs) (hk : k = cs.length) (hm : ∀ z w, vb_bx LP pv ad z w → vb_bx LP' pv' ad z w) (hy : vb_bx LP' pv' ad y (zI (c : Int))) : lsOK ad LP' pv' (va_up f k (some y)) (cs ++ [c]) := by
  subst hk
  intro i d hi
  by_cases e : i = cs.length
  · subst e
    rw [List.getElem?_concat_length] at hi
    cases hi
    exact ⟨y, if_pos rfl, hy⟩
  · have hlt : i < cs.length := by
      have := (List.getElem?_eq_some_iff.mp hi).1
      rw [List.length_append] at this
      have h1 : [c].length = 1 := rfl
      omega
    rw [List.getElem?_append_left hlt] at hi
    obtain ⟨z, h1, h2⟩ := h i d hi
    exact ⟨z, by rw [← h1]; exact if_neg e, hm z _ h2⟩
theorem bx_c {LP : List Nat} {pv : Nat → Int32} {ad : Nat → Nat} {v : Int} (h : 0 ≤ v ∧ v ≤ 127) : vb_bx LP pv ad (ad (v + 128).toNat) (zI v) := by
  refine Or.inr ⟨(v + 128).toNat, by omega, rfl, ?_⟩
  unfold vb_c
  apply Int32.toInt_inj.mp
  have h1 : Int32.ofNat (v + 128).toNat = zI (v + 128) := by
    show _ = Int32.ofInt _
    rw [← Int32.ofInt_eq_ofNat]
    congr 1
    omega
  rw [h1]
  have h2 : zI (v + 128) - 128 = zI v := by
    have e : zI (v + 128) - zI 128 = zI (v + 128 - 128) := (Int32.ofInt_sub _ _).symm
    have e2 : (128 : Int32) = zI 128 := rfl
    rw [e2, e]
    congr 1
    omega
  rw [h2]
theorem pt_new {A : Nat → Prop} {X : va_W} {LP : List Nat} {pv : Nat → Int32} {i r : Nat} {e : va_E} (hD : va_D A (X ++ PT LP pv)) (hi : X[i]? = some (r, e)) : r ∉ LP := by
  intro hr
  have h := (va_D_iff.mp hD).1
  rw [List.map_append] at h
  refine (List.nodup_append.mp h).2.2 r (List.mem_map.mpr ⟨(r, e), List.mem_of_getElem? hi, rfl⟩) r ?_ rfl
  exact List.mem_map.mpr ⟨(r, .inr (0, [.int (pv r)])), List.mem_map.mpr ⟨r, hr, rfl⟩, rfl⟩
theorem pt_perm (X : va_W) {LP : List Nat} {pv : Nat → Int32} {r : Nat} {v : Int32} (hr : r ∉ LP) : ((X ++ ([(r, .inr (0, [.int v]))] : va_W)) ++ PT LP pv).Perm (X ++ PT (LP ++ [r]) (va_up pv r v)) := by
  have e : PT (LP ++ [r]) (va_up pv r v) = PT LP pv ++ ([(r, .inr (0, [.int v]))] : va_W) := by
    show va_pl _ _ = va_pl _ _ ++ _
    rw [va_pl_push hr]
    refine va_pl_congr (fun a => ?_)
    unfold va_up
    split <;> rfl
  rw [e, List.append_assoc]
  exact List.Perm.append_left _ List.perm_append_comm
def lsKab (n a b : Nat) : Bool := (List.range 8).all (fun w => (List.range 4).all (fun o => !lsP n a b w o))
theorem lsK_ab {n a b : Nat} (hb : b < 1000) : lsK n (1000 * a + b) = lsKab n a b := by
  unfold lsK lsKab
  rw [show (1000 * a + b) / 1000 = a by omega, show (1000 * a + b) % 1000 = b by omega]
theorem lsKab_iff {n a b : Nat} : lsKab n a b = true ↔ ∀ w o, w < 8 → o < 4 → lsP n a b w o = false := by
  unfold lsKab
  simp only [List.all_eq_true, List.mem_range, Bool.not_eq_true']
  exact ⟨fun h w o hw ho => h w hw o ho, fun h w hw o ho => h w o hw ho⟩
theorem lsP_0 {n a b w o : Nat} (h1 : ¬ 1000 * TWw n a w + TWw n b ((w &&& 4) ||| o) < 1000 * a + b) (h2 : ¬ 1000 * TWw n b ((w &&& 4) ||| o) + TWw n a w < 1000 * a + b) : lsP n a b w o = false := by
  unfold lsP
  rw [decide_eq_false h1, decide_eq_false h2]
  rfl
theorem lsP_1 {n a b w o : Nat} (h1 : 1000 * TWw n a w + TWw n b ((w &&& 4) ||| o) < 1000 * a + b) : lsP n a b w o = true := by
  unfold lsP
  rw [decide_eq_true h1]
  rfl
theorem lsP_2 {n a b w o : Nat} (h1 : 1000 * TWw n b ((w &&& 4) ||| o) + TWw n a w < 1000 * a + b) : lsP n a b w o = true := by
  unfold lsP
  rw [decide_eq_true h1, Bool.or_true]
theorem ow_lt : ∀ w, w < 8 → ∀ o, o < 4 → ((w &&& 4) ||| o) < 8 := by decide +kernel
/-- how far the pairs are made -/
def qI (ad : Nat → Nat) (d0 n a b mk k eA : Nat) (f : Nat → Option Nat) (LP : List Nat) (pv : Nat → Int32) : Prop := mk = 4 * (stL n (2 ^ (n - 1)) a b).length ∧ k = ((stL n (2 ^ (n - 1)) a b).filter (lsK n)).length ∧ lsOK ad LP pv f ((stL n (2 ^ (n - 1)) a b).filter (lsK n)) ∧ (k = 0 → eA = d0)
section
variable {ad : Nat → Nat} {d0 n a b mk k eA : Nat} {f : Nat → Option Nat} {LP : List Nat} {pv : Nat → Int32}
theorem qI_n (h : qI ad d0 n a b mk k eA f LP pv) (hc : ¬ cb n a b = true) : qI ad d0 n a (b + 1) mk k eA f LP pv := by
  unfold qI
  rw [stL_n n _ a b hc]
  exact h
theorem qI_0 (h : qI ad d0 n a b mk k eA f LP pv) (hc : cb n a b = true) (hb : b < 1000) (hl : ¬ lsKab n a b = true) : qI ad d0 n a (b + 1) (mk + 4) k eA f LP pv := by
  unfold qI
  rw [stL_y n _ a b hc, List.filter_append, List.filter_cons_of_neg (by rw [lsK_ab hb]; exact hl), List.filter_nil, List.append_nil, List.length_append]
  exact ⟨by rw [h.1]; rfl, h.2.1, h.2.2.1, h.2.2.2⟩
theorem qI_1 {eA' : Nat} {f' : Nat → Option Nat} {LP' : List Nat} {pv' : Nat → Int32} (h : qI ad d0 n a b mk k eA f LP pv) (hc : cb n a b = true) (hb : b < 1000) (hl : lsKab n a b = true) (h' : lsOK ad LP' pv' f' ((stL n (2 ^ (n - 1)) a b).filter (lsK n) ++ [1000 * a + b])) : qI ad d0 n a (b + 1) (mk + 4) (k + 1) eA' f' LP' pv' := by
  unfold qI
  rw [stL_y n _ a b hc, List.filter_append, List.filter_cons_of_pos (by rw [lsK_ab hb]; exact hl), List.filter_nil, List.length_append, List.length_append]
  exact ⟨by rw [h.1]; rfl, by rw [h.2.1]; rfl, h', fun z => absurd z (by omega)⟩
theorem qI_e (h : qI ad d0 n a (2 ^ (n - 1)) mk k eA f LP pv) : qI ad d0 n (a + 1) 0 mk k eA f LP pv := by
  unfold qI
  rw [← stL_e]
  exact h
theorem qI_bd (gn : 1 ≤ n ∧ n ≤ 8) (h : qI ad d0 n a b mk k eA f LP pv) (ha : a < 2 ^ (n - 1)) (hb : b ≤ 2 ^ (n - 1)) : mk ≤ 192 ∧ k ≤ 5 := by
  have z := stL_pre n (2 ^ (n - 1)) ha hb
  have p := pairs_all gn
  have z1 := z.length_le
  have z2 := (z.filter (lsK n)).length_le
  have p1 : 4 * (allL n (2 ^ (n - 1)) (2 ^ (n - 1))).length = (aA n).length := p.1
  have p2 : ((allL n (2 ^ (n - 1)) (2 ^ (n - 1))).filter (lsK n)).length = (aK n).length := congrArg List.length p.2.1
  rw [h.1, h.2.1]
  omega
theorem qI_by (gn : 1 ≤ n ∧ n ≤ 8) (h : qI ad d0 n a b mk k eA f LP pv) (ha : a < 2 ^ (n - 1)) (hb : b < 2 ^ (n - 1)) (hc : cb n a b = true) (hb' : b < 1000) (hl : lsKab n a b = true) : k < 5 := by
  have z := ((stL_pre n (2 ^ (n - 1)) ha (show b + 1 ≤ 2 ^ (n - 1) by omega)).filter (lsK n)).length_le
  rw [stL_y n _ a b hc, List.filter_append, List.filter_cons_of_pos (by rw [lsK_ab hb']; exact hl), List.filter_nil, List.length_append] at z
  have p := pairs_all gn
  have p2 : ((allL n (2 ^ (n - 1)) (2 ^ (n - 1))).filter (lsK n)).length = (aK n).length := congrArg List.length p.2.1
  have e : [1000 * a + b].length = 1 := rfl
  rw [h.2.1]
  omega
theorem qI_all (gn : 1 ≤ n ∧ n ≤ 8) (h : qI ad d0 n (2 ^ (n - 1)) 0 mk k eA f LP pv) : mk = (aA n).length ∧ k = (aK n).length ∧ lsOK ad LP pv f (aK n) ∧ ((aK n).length = 0 → eA = d0) := by
  unfold qI at h
  rw [stL_all] at h
  have p := pairs_all gn
  have p2 : (allL n (2 ^ (n - 1)) (2 ^ (n - 1))).filter (lsK n) = aK n := p.2.1
  rw [p2] at h
  exact ⟨h.1.trans p.1, h.2.1, h.2.2.1, fun z => h.2.2.2 (h.2.1.trans z)⟩
end
theorem qI_z (ad : Nat → Nat) (d0 n : Nat) (f : Nat → Option Nat) (LP : List Nat) (pv : Nat → Int32) : qI ad d0 n 0 0 0 0 d0 f LP pv := ⟨rfl, rfl, lsOK_nil ad LP pv f, fun _ => rfl⟩
theorem pw7 {n : Nat} (h : 1 ≤ n ∧ n ≤ 8) : 1 ≤ 2 ^ (n - 1) ∧ 2 ^ (n - 1) ≤ 128 ∧ 2 ^ (n - 1) < 2 ^ n ∧ 2 ^ n ≤ 256 := by
  have z : ∀ n, n < 9 → 1 ≤ n → 1 ≤ 2 ^ (n - 1) ∧ 2 ^ (n - 1) ≤ 128 ∧ 2 ^ (n - 1) < 2 ^ n ∧ 2 ^ n ≤ 256 := by decide +kernel
  exact z n (by omega) h.1
-- codeOf
set_option maxHeartbeats 4000000 in
set_option maxRecDepth 100000 in
theorem c_X1_codeOf (l : Launch) (a b : Nat) (ga : a < 1000) (gb : b < 1000) : Met l yX1_codeOf wsX1_codeOf ({ frames := 0, cells := 0, slots := 0, locals := 0 }) (va_Pc [.long (lN (a)), .long (lN (b))] (fun _ => True)) (vp_Si (fun r => r = zI ((1000 * a + b : Nat) : Int))) 0 0 (fun _ => False) := by
  refine Met.ofW (cc := cX1_codeOf) (maxL := 4) (ret := (some .int)) (by decide) rfl ?_
  intro p e s m args below meth c s₁ B hml hv
  obtain ⟨rfl, -⟩ := hv
  have hx := B.exec
  have hb := B.bytes
  have hr := B.returns
  have hts := atoms_spec (ws := wsX1_codeOf) B.pre
  have hown : s.vm.findClass RX1 = some m.cls := findClass_of_methodNamed B.named
  have hlocks := B.notSynchronized
  have hl := lv_entry ([.long (lN (a)), .long (lN (b))]) (n := 4) (Nat.le_of_ble_eq_true rfl)
  rw [lg_entry_eq]
  generalize (lg_sl ([.long (lN (a)), .long (lN (b))]) ++ List.replicate (4 - (lg_sl ([.long (lN (a)), .long (lN (b))])).length) Slot.unset).toArray = ls at hl ⊢
  have hl : lv_has ls 4 [(0, .long (lN (a))), (2, .long (lN (b)))] := hl
  refine lv_sipush (v := zI 1000) hx hb dX1_codeOf_0 (by decide +kernel) ?_
  refine lv_lload_n hx hb dX1_codeOf_3 rfl (lv_at hl 0 rfl) ?_
  refine n_l2i hx hb dX1_codeOf_4 ?_
  refine z_re (e2 := ((a : Nat) : Int)) (by omega) ?_
  refine z_imul hx hb dX1_codeOf_5 ?_
  refine z_re (e2 := ((1000 * a : Nat) : Int)) (by omega) ?_
  refine lv_lload_n hx hb dX1_codeOf_6 rfl (lv_at hl 1 rfl) ?_
  refine n_l2i hx hb dX1_codeOf_7 ?_
  refine z_re (e2 := ((b : Nat) : Int)) (by omega) ?_
  refine z_iadd hx hb dX1_codeOf_8 ?_
  refine z_re (e2 := ((1000 * a + b : Nat) : Int)) (by omega) ?_
  exact W.iret (v := (zI (((1000 * a + b : Nat) : Int)))) hx hb hr (fun tq ht hW => ⟨_, rfl, rfl, ht⟩) (fun q h => by cases h) dX1_codeOf_9

-- kinds
set_option maxHeartbeats 4000000 in
set_option maxRecDepth 100000 in
theorem c_X1_kinds (l : Launch) (D : va_G) (t : Nat → ClassId) (q li eA k : Nat) (mk mo : Int)  : Met l yX1_kinds wsX1_kinds ({ frames := 1, cells := 0, slots := 0, locals := 20 }) (va_Pc [.ref q] (fun U => va_P D vwCl ([(q, .inr (3, [.int (zI (mk)), .ref li])), (li, .inr (1, [.int (zI (mo)), .ref eA, .int (zI (((k : Nat) : Int)))]))]) U.heap ∧ va_K D vwCl (TY t) U)) (vp_Si (fun r => r = zI (k : Int))) 0 0 (fun _ => False) := by
  refine Met.ofW (cc := cX1_kinds) (maxL := 1) (ret := (some .int)) (by decide) rfl ?_
  intro p e s m args below meth c s₁ B hml hv
  obtain ⟨rfl, hP, hK⟩ := hv
  have hx := B.exec
  have hb := B.bytes
  have hr := B.returns
  have hts := atoms_spec (ws := wsX1_kinds) B.pre
  have hown : s.vm.findClass RX1 = some m.cls := findClass_of_methodNamed B.named
  have hlocks := B.notSynchronized
  have hl := lv_entry ([.ref q]) (n := 1) (Nat.le_of_ble_eq_true rfl)
  rw [lg_entry_eq]
  generalize (lg_sl ([.ref q]) ++ List.replicate (1 - (lg_sl ([.ref q])).length) Slot.unset).toArray = ls at hl ⊢
  have hl : lv_has ls 1 [(0, .ref q)] := hl
  have iX1 : ∀ w ∈ u_ws RX1 TX1 2, w ∈ wsX1_kinds := by decide +kernel
  refine lv_aload_n hx hb dX1_kinds_0 rfl (lv_at hl 0 rfl) ?_
  refine va_get (D := D) (ci := 3) (v := .ref li) (C := RX1) (T := TX1) (N := 2) hx hb hts iX1 hown hK hP 0 rfl rfl 1 (by decide) (hts (.fieldLink RX1 16 "CancelRows$PairList" "codes" "Ljava/util/ArrayList;") (by decide +kernel)) (fun _ h9 => h9) rfl dX1_kinds_1 ?_
  have hPc := hP.sub (ws' := [(li, .inr (1, [.int (zI (mo)), .ref eA, .int (zI (((k : Nat) : Int)))]))]) [1] rfl
  refine vp_callSi (va_runV (As := []) (rest := []) ⟨hx, hb, hml, hown, hts⟩ (c_size l D t li eA k mo) (cwV 0 hts gX1_kinds_Jx4a65c_size_8abf5 rfl rfl rfl (by decide +kernel) ⟨Nat.le_of_ble_eq_true rfl, Nat.le_of_ble_eq_true rfl⟩) ⟨fun a U g mk q => ⟨q.1, q.2.1, va_K.moved (u := U) (U := U.calling g mk a) (Vm.Alike.refl U.vm) q.2.2⟩, va_recv hK hPc (ci := 1) (q0 := 0) rfl rfl, fun U hU hW => ⟨rfl, by rw [hU]; exact hPc, va_K.moved hW.alike hK⟩⟩ rfl rfl hl.1 rfl (lv_room (Nat.le_of_ble_eq_true rfl)) dX1_kinds_4 ⟨Nat.le_of_ble_eq_true rfl, Nat.le_of_ble_eq_true rfl⟩).run (fun r hr4 => ?_)
  obtain rfl := hr4
  exact W.iret (v := (zI (((k : Nat) : Int)))) hx hb hr (fun tq ht hW => ⟨_, rfl, rfl, ht⟩) (fun q h => by cases h) dX1_kinds_7

-- codeAt
set_option maxHeartbeats 4000000 in
set_option maxRecDepth 100000 in
theorem c_X1_codeAt (l : Launch) (D : va_G) (t : Nat → ClassId) (ad : Nat → Nat) (d0 tc : Nat) (q li eA k : Nat) (mk mo : Int) (f : Nat → Option Nat) (LP : List Nat) (pv : Nat → Int32) (gk : k ≤ 10) (i y : Nat) (v : Int) (hi : i < k) (hf : f i = some y) (hbx : vb_bx LP pv ad y (zI v)) : Met l yX1_codeAt wsX1_codeAt ({ frames := 3, cells := 0, slots := 0, locals := 64 }) (va_Pc [.ref q, .int (zI (i))] (fun U => va_P D vwCl (([(q, .inr (3, [.int (zI (mk)), .ref li])), (li, .inr (1, [.int (zI (mo)), .ref eA, .int (zI (((k : Nat) : Int)))])), aQ t 6 eA 10 (f)] ++ PT LP pv)) U.heap ∧ va_K D vwCl (TY t) U ∧ jK ad d0 tc (fun _ => False) U U.heap)) (vp_Si (fun r => r = zI v)) 0 0 (fun _ => False) := by
  refine Met.ofW (cc := cX1_codeAt) (maxL := 2) (ret := (some .int)) (by decide) rfl ?_
  intro p e s m args below meth c s₁ B hml hv
  obtain ⟨rfl, hP, hK, hJ⟩ := hv
  have hS : va_S (fun _ => False) s.heap s.heap [] := va_S.rf
  have hx := B.exec
  have hb := B.bytes
  have hr := B.returns
  have hts := atoms_spec (ws := wsX1_codeAt) B.pre
  have hown : s.vm.findClass RX1 = some m.cls := findClass_of_methodNamed B.named
  have hlocks := B.notSynchronized
  have hl := lv_entry ([.ref q, .int (zI (i))]) (n := 2) (Nat.le_of_ble_eq_true rfl)
  rw [lg_entry_eq]
  generalize (lg_sl ([.ref q, .int (zI (i))]) ++ List.replicate (2 - (lg_sl ([.ref q, .int (zI (i))])).length) Slot.unset).toArray = ls at hl ⊢
  have hl : lv_has ls 2 [(0, .ref q), (1, .int (zI (i)))] := hl
  have iX1 : ∀ w ∈ u_ws RX1 TX1 2, w ∈ wsX1_codeAt := by decide +kernel
  refine lv_iload_n hx hb dX1_codeAt_0 rfl (lv_at hl 1 rfl) ?_
  refine z_if_lt (tgt := 32) hx hb dX1_codeAt_1 (by decide) (by omega) (fun c1 => ?_) (fun c1 => ?_)
  · omega
  · refine lv_iload_n hx hb dX1_codeAt_4 rfl (lv_at hl 1 rfl) ?_
    refine lv_aload_n hx hb dX1_codeAt_5 rfl (lv_at hl 0 rfl) ?_
    refine va_get (D := D) (ci := 3) (v := .ref li) (C := RX1) (T := TX1) (N := 2) hx hb hts iX1 hown hK hP 0 rfl rfl 1 (by decide) (hts (.fieldLink RX1 16 "CancelRows$PairList" "codes" "Ljava/util/ArrayList;") (by decide +kernel)) (fun _ h9 => h9) rfl dX1_codeAt_6 ?_
    have hPc := hP.sub (ws' := [(li, .inr (1, [.int (zI (mo)), .ref eA, .int (zI (((k : Nat) : Int)))]))]) [1] rfl
    refine vp_callSi (va_runV (As := []) (rest := [.int (zI (i))]) ⟨hx, hb, hml, hown, hts⟩ (c_size l D t li eA k mo) (cwV 0 hts gX1_codeAt_Jx4a65c_size_8abf5 rfl rfl rfl (by decide +kernel) ⟨Nat.le_of_ble_eq_true rfl, Nat.le_of_ble_eq_true rfl⟩) ⟨fun a U g mk q => ⟨q.1, q.2.1, va_K.moved (u := U) (U := U.calling g mk a) (Vm.Alike.refl U.vm) q.2.2⟩, va_recv hK hPc (ci := 1) (q0 := 0) rfl rfl, fun U hU hW => ⟨rfl, by rw [hU]; exact hPc, va_K.moved hW.alike hK⟩⟩ rfl rfl hl.1 rfl (lv_room (Nat.le_of_ble_eq_true rfl)) dX1_codeAt_9 ⟨Nat.le_of_ble_eq_true rfl, Nat.le_of_ble_eq_true rfl⟩).run (fun r hr9 => ?_)
    obtain rfl := hr9
    refine z_icmp_ge (tgt := 32) hx hb dX1_codeAt_12 (by decide) (by omega) (by omega) (fun c12 => ?_) (fun c12 => ?_)
    · omega
    · refine lv_aload_n hx hb dX1_codeAt_15 rfl (lv_at hl 0 rfl) ?_
      refine va_get (D := D) (ci := 3) (v := .ref li) (C := RX1) (T := TX1) (N := 2) hx hb hts iX1 hown hK hP 0 rfl rfl 1 (by decide) (hts (.fieldLink RX1 16 "CancelRows$PairList" "codes" "Ljava/util/ArrayList;") (by decide +kernel)) (fun _ h9 => h9) rfl dX1_codeAt_16 ?_
      refine lv_iload_n hx hb dX1_codeAt_19 rfl (lv_at hl 1 rfl) ?_
      have hPc := hP.sub (ws' := [(li, .inr (1, [.int (zI (mo)), .ref eA, .int (zI (((k : Nat) : Int)))])), aQ t 6 eA 10 (f)]) [1, 2] rfl
      refine va_csq (va_runV (As := [.int (zI (i))]) (rest := []) ⟨hx, hb, hml, hown, hts⟩ (c_get l D t li eA k mo f gk i y hi hf) (cwV 1 hts gX1_codeAt_Jx4a65c_get_915e3 rfl rfl rfl (by decide +kernel) ⟨Nat.le_of_ble_eq_true rfl, Nat.le_of_ble_eq_true rfl⟩) ⟨fun a U g mk q => ⟨q.1, q.2.1, va_K.moved (u := U) (U := U.calling g mk a) (Vm.Alike.refl U.vm) q.2.2⟩, va_recv hK hPc (ci := 1) (q0 := 0) rfl rfl, fun U hU hW => ⟨rfl, by rw [hU]; exact hPc, va_K.moved hW.alike hK⟩⟩ rfl rfl hl.1 rfl (lv_room (Nat.le_of_ble_eq_true rfl)) dX1_codeAt_20 ⟨Nat.le_of_ble_eq_true rfl, Nat.le_of_ble_eq_true rfl⟩).run (fun r hr20 => ?_)
      obtain rfl := hr20
      refine va_castS hx hb hown (hts (.classLink RX1 38 "java/lang/Integer") (by decide +kernel)) (hK.1 0 _ rfl).2 (vb_recv hJ.1 hS hK hP rfl hbx.bm) dX1_codeAt_23 ?_
      have hPc := hP.part (X := [(q, .inr (3, [.int (zI (mk)), .ref li])), (li, .inr (1, [.int (zI (mo)), .ref eA, .int (zI (((k : Nat) : Int)))])), aQ t 6 eA 10 (f)]) (cx := []) (pl := PT LP pv) [] rfl
      refine vp_callSi (va_runV (As := []) (rest := []) ⟨hx, hb, hml, hown, hts⟩ (c_J6_intValue l D t ad d0 tc LP pv y v hbx) (cwV 0 hts gX1_codeAt_J6_intValue_8abf5 rfl rfl rfl (by decide +kernel) ⟨Nat.le_of_ble_eq_true rfl, Nat.le_of_ble_eq_true rfl⟩) ⟨fun a U g mk q => by obtain ⟨q0, qP, qK, qS0⟩ := q; exact ⟨q0, qP, va_K.moved (u := U) (U := U.calling g mk a) (Vm.Alike.refl U.vm) qK, qS0.moved (u := U) (U := U.calling g mk a) (Vm.Alike.refl U.vm)⟩, vb_recv hJ.1 hS hK hP rfl hbx.bm, fun U hU hW => ⟨rfl, by rw [hU]; exact hPc, va_K.moved hW.alike hK, by rw [hU]; exact (((hJ.kept hS.2.1).narrow (fun q h => h.elim))).moved hW.alike⟩⟩ rfl rfl hl.1 rfl (lv_room (Nat.le_of_ble_eq_true rfl)) dX1_codeAt_26 ⟨Nat.le_of_ble_eq_true rfl, Nat.le_of_ble_eq_true rfl⟩).run (fun r hr26 => ?_)
      obtain rfl := hr26
      refine lv_goto (tgt := 33) hx hb dX1_codeAt_29 (by decide) ?_
      exact W.iret (v := (zI (v))) hx hb hr (fun tq ht hW => ⟨_, rfl, rfl, ht⟩) (fun q h => by cases h) dX1_codeAt_33

-- keepIfLeast, not the least
set_option maxHeartbeats 4000000 in
set_option maxRecDepth 100000 in
theorem c_keep_n (l : Launch) (D : va_G) (t : Nat → ClassId) (q : Nat) (a b n : Nat) (gn : 1 ≤ n ∧ n ≤ 8) (ga : a < 2 ^ n) (gb : b < 2 ^ n) (hls : ¬ lsKab n a b = true) : Met l yX1_keepIfLeast wsX1_keepIfLeast ({ frames := 3, cells := 0, slots := 0, locals := 67 }) (va_Pc [.ref q, .int (zI (a)), .int (zI (b)), .int (zI (n))] (fun U => va_P D vwCl ([]) U.heap ∧ va_K D vwCl (TY t) U)) (va_Sv (fun _ => True)) 0 0 (fun _ => False) := by
  refine Met.ofW (cc := cX1_keepIfLeast) (maxL := 11) (ret := none) (by decide) rfl ?_
  intro p e s m args below meth c s₁ B hml hv
  obtain ⟨rfl, hP, hK⟩ := hv
  have hx := B.exec
  have hb := B.bytes
  have hr := B.returns
  have hts := atoms_spec (ws := wsX1_keepIfLeast) B.pre
  have hown : s.vm.findClass RX1 = some m.cls := findClass_of_methodNamed B.named
  have hlocks := B.notSynchronized
  have hl := lv_entry ([.ref q, .int (zI (a)), .int (zI (b)), .int (zI (n))]) (n := 11) (Nat.le_of_ble_eq_true rfl)
  rw [lg_entry_eq]
  generalize (lg_sl ([.ref q, .int (zI (a)), .int (zI (b)), .int (zI (n))]) ++ List.replicate (11 - (lg_sl ([.ref q, .int (zI (a)), .int (zI (b)), .int (zI (n))])).length) Slot.unset).toArray = ls at hl ⊢
  have hl : lv_has ls 11 [(0, .ref q), (1, .int (zI (a))), (2, .int (zI (b))), (3, .int (zI (n)))] := hl
  have b0 := pw7 gn
  refine lv_iload_n hx hb dX1_keepIfLeast_0 rfl (lv_at hl 1 rfl) ?_
  refine n_i2l (a := a) hx hb (by omega) dX1_keepIfLeast_1 ?_
  refine lv_iload_n hx hb dX1_keepIfLeast_2 rfl (lv_at hl 2 rfl) ?_
  refine n_i2l (a := b) hx hb (by omega) dX1_keepIfLeast_3 ?_
  refine vp_callSi (va_runS (As := [.long (lN (a)), .long (lN (b))]) (rest := []) ⟨hx, hb, hml, hown, hts⟩ (c_X1_codeOf l a b (by omega) (by omega)) (va_cwS 2 hts gX1_keepIfLeast_X1_codeOf rfl rfl rfl (by decide +kernel) ⟨Nat.le_of_ble_eq_true rfl, Nat.le_of_ble_eq_true rfl⟩) ⟨fun a U g mk q => q, fun U hU hW => ⟨rfl, trivial⟩⟩ rfl rfl hl.1 rfl (lv_room (Nat.le_of_ble_eq_true rfl)) dX1_keepIfLeast_4 ⟨Nat.le_of_ble_eq_true rfl, Nat.le_of_ble_eq_true rfl⟩).run (fun r hr4 => ?_)
  obtain rfl := hr4
  refine lv_istore (lv' := [(4, .int (zI (((1000 * (a) + (b) : Nat) : Int)))), (0, .ref q), (1, .int (zI (a))), (2, .int (zI (b))), (3, .int (zI (n)))]) hx hb dX1_keepIfLeast_7 hl (by decide) rfl (fun ls hl => ?_)
  refine lv_iconst (v := zI 0) hx hb dX1_keepIfLeast_9 rfl ?_
  refine z_re (e2 := ((0 : Nat) : Int)) (rfl) ?_
  refine lv_istore (lv' := [(5, .int (zI (((0 : Nat) : Int)))), (4, .int (zI (((1000 * (a) + (b) : Nat) : Int)))), (0, .ref q), (1, .int (zI (a))), (2, .int (zI (b))), (3, .int (zI (n)))]) hx hb dX1_keepIfLeast_10 hl (by decide) rfl (fun ls hl => ?_)
  have lp12 : ∀ (NN : Nat) (w : Nat) (q1 : w ≤ 8) (q2 : ∀ w1 o1, w1 < w → o1 < 4 → lsP n a b w1 o1 = false), 8 - w < NN → ∀ (ls : Array Slot), lv_has ls 11 [(0, .ref q), (1, .int (zI (a))), (2, .int (zI (b))), (3, .int (zI (n))), (4, .int (zI (((1000 * a + b : Nat) : Int)))), (5, .int (zI (w)))] → W p l e (headSpec wsX1_keepIfLeast ({ frames := 3, cells := 0, slots := 0, locals := 67 })).room s m ([.ref q, .int (zI (a)), .int (zI (b)), .int (zI (n))] : List Value).toArray below meth c s.heap [] 0 0 (MQ below (va_Sv (fun _ => True)) ([.ref q, .int (zI (a)), .int (zI (b)), .int (zI (n))] : List Value).toArray s 0 0 (fun _ => False)) (F0 m 12 ls []) := by
    intro NN
    induction NN with
    | zero =>
      intro w q1 q2 hmu
      exact absurd hmu (Nat.not_lt_zero _)
    | succ NN ih12 =>
      intro w q1 q2 hmu ls hl
      refine lv_iload hx hb dX1_keepIfLeast_12 (lv_at hl 5 rfl) ?_
      refine lv_bipush (v := zI 8) hx hb dX1_keepIfLeast_14 (by decide +kernel) ?_
      refine z_icmp_ge (tgt := 90) hx hb dX1_keepIfLeast_16 (by decide) (by omega) (by omega) (fun c16 => ?_) (fun c16 => ?_)
      · exact absurd (lsKab_iff.mpr (fun w1 o1 h1 h2 => q2 w1 o1 (by omega) h2)) hls
      · refine lv_iconst (v := zI 0) hx hb dX1_keepIfLeast_19 rfl ?_
        refine z_re (e2 := ((0 : Nat) : Int)) (rfl) ?_
        refine lv_istore (lv' := [(6, .int (zI (((0 : Nat) : Int)))), (0, .ref q), (1, .int (zI (a))), (2, .int (zI (b))), (3, .int (zI (n))), (4, .int (zI (((1000 * a + b : Nat) : Int)))), (5, .int (zI (w)))]) hx hb dX1_keepIfLeast_20 hl (by decide) rfl (fun ls hl => ?_)
        have lp22 : ∀ (NN : Nat) (o : Nat) (r1 : o ≤ 4) (r2 : ∀ o1, o1 < o → lsP n a b w o1 = false), 4 - o < NN → ∀ (ls : Array Slot), lv_has ls 11 [(0, .ref q), (1, .int (zI (a))), (2, .int (zI (b))), (3, .int (zI (n))), (4, .int (zI (((1000 * a + b : Nat) : Int)))), (5, .int (zI (w))), (6, .int (zI (o)))] → W p l e (headSpec wsX1_keepIfLeast ({ frames := 3, cells := 0, slots := 0, locals := 67 })).room s m ([.ref q, .int (zI (a)), .int (zI (b)), .int (zI (n))] : List Value).toArray below meth c s.heap [] 0 0 (MQ below (va_Sv (fun _ => True)) ([.ref q, .int (zI (a)), .int (zI (b)), .int (zI (n))] : List Value).toArray s 0 0 (fun _ => False)) (F0 m 22 ls []) := by
          intro NN
          induction NN with
          | zero =>
            intro o r1 r2 hmu
            exact absurd hmu (Nat.not_lt_zero _)
          | succ NN ih22 =>
            intro o r1 r2 hmu ls hl
            have b1 := TWw_lt n a w
            have b2 := TWw_lt n b ((w &&& 4) ||| o)
            refine lv_iload hx hb dX1_keepIfLeast_22 (lv_at hl 6 rfl) ?_
            refine lv_iconst (v := zI 4) hx hb dX1_keepIfLeast_24 rfl ?_
            refine z_icmp_ge (tgt := 84) hx hb dX1_keepIfLeast_25 (by decide) (by omega) (by omega) (fun c25 => ?_) (fun c25 => ?_)
            · refine lv_iinc (v := zI (((w + 1 : Nat) : Int))) (lv' := [(5, .int (zI (((w + 1 : Nat) : Int)))), (0, .ref q), (1, .int (zI (a))), (2, .int (zI (b))), (3, .int (zI (n))), (4, .int (zI (((1000 * a + b : Nat) : Int)))), (6, .int (zI (o)))]) hx hb dX1_keepIfLeast_84 hl (k := 5) rfl (zI_incr (by omega)) (by decide) rfl (fun ls hl => ?_)
              refine lv_goto (tgt := 12) hx hb dX1_keepIfLeast_87 (by decide) ?_
              exact ih12 (w + 1) (by omega) (fun w1 o1 h1 h2 => if e1 : w1 = w then e1 ▸ r2 o1 (by omega) else q2 w1 o1 (by omega) h2) (by omega) _ (lv_sub hl [1, 2, 3, 4, 5, 0] rfl)
            · refine lv_iload_n hx hb dX1_keepIfLeast_28 rfl (lv_at hl 1 rfl) ?_
              refine n_i2l (a := a) hx hb (by omega) dX1_keepIfLeast_29 ?_
              refine lv_iload_n hx hb dX1_keepIfLeast_30 rfl (lv_at hl 3 rfl) ?_
              refine lv_iload hx hb dX1_keepIfLeast_31 (lv_at hl 5 rfl) ?_
              refine vp_callSl (va_runS (As := [.long (lN (a)), .int (zI (n)), .int (zI (w))]) (rest := []) ⟨hx, hb, hml, hown, hts⟩ (c_X3_turned l a n w (by omega) ga (by omega)) (va_cwS 3 hts gX1_keepIfLeast_X3_turned rfl rfl rfl (by decide +kernel) ⟨Nat.le_of_ble_eq_true rfl, Nat.le_of_ble_eq_true rfl⟩) ⟨fun a U g mk q => q, fun U hU hW => ⟨rfl, trivial⟩⟩ rfl rfl hl.1 rfl (lv_room (Nat.le_of_ble_eq_true rfl)) dX1_keepIfLeast_33 ⟨Nat.le_of_ble_eq_true rfl, Nat.le_of_ble_eq_true rfl⟩).run (fun r hr33 => ?_)
              obtain rfl := hr33
              refine lv_lstore (lv' := [(7, .long (lN (TWw (n) (a) (w)))), (0, .ref q), (1, .int (zI (a))), (2, .int (zI (b))), (3, .int (zI (n))), (4, .int (zI (((1000 * a + b : Nat) : Int)))), (5, .int (zI (w))), (6, .int (zI (o)))]) hx hb dX1_keepIfLeast_36 hl (by decide) rfl (fun ls hl => ?_)
              refine lv_iload_n hx hb dX1_keepIfLeast_38 rfl (lv_at hl 3 rfl) ?_
              refine n_i2l (a := b) hx hb (by omega) dX1_keepIfLeast_39 ?_
              refine lv_iload_n hx hb dX1_keepIfLeast_40 rfl (lv_at hl 4 rfl) ?_
              refine lv_iload hx hb dX1_keepIfLeast_41 (lv_at hl 6 rfl) ?_
              refine lv_iconst (v := zI 4) hx hb dX1_keepIfLeast_43 rfl ?_
              refine z_re (e2 := ((4 : Nat) : Int)) (rfl) ?_
              refine n_iand hx hb (a := w) (b := 4) dX1_keepIfLeast_44 ?_
              refine lv_iload hx hb dX1_keepIfLeast_45 (lv_at hl 7 rfl) ?_
              refine n_ior hx hb (a := (w) &&& (4)) (b := o) dX1_keepIfLeast_47 ?_
              refine vp_callSl (va_runS (As := [.long (lN (b)), .int (zI (n)), .int (zI (((((w) &&& (4)) ||| (o) : Nat) : Int)))]) (rest := []) ⟨hx, hb, hml, hown, hts⟩ (c_X3_turned l b n ((w &&& 4) ||| o) (by omega) gb (ow_lt w (by omega) o (by omega))) (va_cwS 3 hts gX1_keepIfLeast_X3_turned rfl rfl rfl (by decide +kernel) ⟨Nat.le_of_ble_eq_true rfl, Nat.le_of_ble_eq_true rfl⟩) ⟨fun a U g mk q => q, fun U hU hW => ⟨rfl, trivial⟩⟩ rfl rfl hl.1 rfl (lv_room (Nat.le_of_ble_eq_true rfl)) dX1_keepIfLeast_48 ⟨Nat.le_of_ble_eq_true rfl, Nat.le_of_ble_eq_true rfl⟩).run (fun r hr48 => ?_)
              obtain rfl := hr48
              refine lv_lstore (lv' := [(9, .long (lN (TWw (n) (b) (((w) &&& (4)) ||| (o))))), (7, .long (lN (TWw (n) (a) (w)))), (0, .ref q), (1, .int (zI (a))), (2, .int (zI (b))), (3, .int (zI (n))), (4, .int (zI (((1000 * a + b : Nat) : Int)))), (5, .int (zI (w))), (6, .int (zI (o)))]) hx hb dX1_keepIfLeast_51 hl (by decide) rfl (fun ls hl => ?_)
              refine lv_lload hx hb dX1_keepIfLeast_53 (lv_at hl 1 rfl) ?_
              refine lv_lload hx hb dX1_keepIfLeast_55 (lv_at hl 0 rfl) ?_
              refine vp_callSi (va_runS (As := [.long (lN (TWw (n) (a) (w))), .long (lN (TWw (n) (b) (((w) &&& (4)) ||| (o))))]) (rest := []) ⟨hx, hb, hml, hown, hts⟩ (c_X1_codeOf l (TWw n a w) (TWw n b ((w &&& 4) ||| o)) (by omega) (by omega)) (va_cwS 2 hts gX1_keepIfLeast_X1_codeOf rfl rfl rfl (by decide +kernel) ⟨Nat.le_of_ble_eq_true rfl, Nat.le_of_ble_eq_true rfl⟩) ⟨fun a U g mk q => q, fun U hU hW => ⟨rfl, trivial⟩⟩ rfl rfl hl.1 rfl (lv_room (Nat.le_of_ble_eq_true rfl)) dX1_keepIfLeast_57 ⟨Nat.le_of_ble_eq_true rfl, Nat.le_of_ble_eq_true rfl⟩).run (fun r hr57 => ?_)
              obtain rfl := hr57
              refine lv_iload hx hb dX1_keepIfLeast_60 (lv_at hl 6 rfl) ?_
              refine z_icmp_lt (tgt := 77) hx hb dX1_keepIfLeast_62 (by decide) (by omega) (by omega) (fun c62 => ?_) (fun c62 => ?_)
              · exact W.vret hx hb hr (fun tq ht hW => ⟨rfl, trivial, ht⟩) (fun q h => by cases h) dX1_keepIfLeast_77
              · refine lv_lload hx hb dX1_keepIfLeast_65 (lv_at hl 0 rfl) ?_
                refine lv_lload hx hb dX1_keepIfLeast_67 (lv_at hl 1 rfl) ?_
                refine vp_callSi (va_runS (As := [.long (lN (TWw (n) (b) (((w) &&& (4)) ||| (o)))), .long (lN (TWw (n) (a) (w)))]) (rest := []) ⟨hx, hb, hml, hown, hts⟩ (c_X1_codeOf l (TWw n b ((w &&& 4) ||| o)) (TWw n a w) (by omega) (by omega)) (va_cwS 2 hts gX1_keepIfLeast_X1_codeOf rfl rfl rfl (by decide +kernel) ⟨Nat.le_of_ble_eq_true rfl, Nat.le_of_ble_eq_true rfl⟩) ⟨fun a U g mk q => q, fun U hU hW => ⟨rfl, trivial⟩⟩ rfl rfl hl.1 rfl (lv_room (Nat.le_of_ble_eq_true rfl)) dX1_keepIfLeast_69 ⟨Nat.le_of_ble_eq_true rfl, Nat.le_of_ble_eq_true rfl⟩).run (fun r hr69 => ?_)
                obtain rfl := hr69
                refine lv_iload hx hb dX1_keepIfLeast_72 (lv_at hl 6 rfl) ?_
                refine z_icmp_ge (tgt := 78) hx hb dX1_keepIfLeast_74 (by decide) (by omega) (by omega) (fun c74 => ?_) (fun c74 => ?_)
                · refine lv_iinc (v := zI (((o + 1 : Nat) : Int))) (lv' := [(6, .int (zI (((o + 1 : Nat) : Int)))), (9, .long (lN (TWw (n) (b) (((w) &&& (4)) ||| (o))))), (7, .long (lN (TWw (n) (a) (w)))), (0, .ref q), (1, .int (zI (a))), (2, .int (zI (b))), (3, .int (zI (n))), (4, .int (zI (((1000 * a + b : Nat) : Int)))), (5, .int (zI (w)))]) hx hb dX1_keepIfLeast_78 hl (k := 8) rfl (zI_incr (by omega)) (by decide) rfl (fun ls hl => ?_)
                  refine lv_goto (tgt := 22) hx hb dX1_keepIfLeast_81 (by decide) ?_
                  exact ih22 (o + 1) (by omega) (fun o1 h1 => if e1 : o1 = o then e1 ▸ lsP_0 (by omega) (by omega) else r2 o1 (by omega)) (by omega) _ (lv_sub hl [3, 4, 5, 6, 7, 8, 0] rfl)
                · exact W.vret hx hb hr (fun tq ht hW => ⟨rfl, trivial, ht⟩) (fun q h => by cases h) dX1_keepIfLeast_77
        exact lp22 _ (0) (by omega) (fun o1 h1 => absurd h1 (Nat.not_lt_zero _)) (Nat.lt_succ_self _) _ (lv_sub hl [1, 2, 3, 4, 5, 6, 0] rfl)
  exact lp12 _ (0) (by omega) (fun w1 o1 h1 _ => absurd h1 (Nat.not_lt_zero _)) (Nat.lt_succ_self _) _ (lv_sub hl [2, 3, 4, 5, 1, 0] rfl)

-- keepIfLeast, the least
set_option maxHeartbeats 4000000 in
set_option maxRecDepth 100000 in
theorem c_keep_y (l : Launch) (D : va_G) (t : Nat → ClassId) (sz : Nat) (ad : Nat → Nat) (d0 tc : Nat) (q li eA k : Nat) (mk mo : Int) (f : Nat → Option Nat) (LP : List Nat) (pv : Nat → Int32) (cs : List Nat) (hcs : lsOK ad LP pv f cs) (hk : k = cs.length) (gk : k < 10) (he : k = 0 → eA = d0) (a b n : Nat) (gn : 1 ≤ n ∧ n ≤ 8) (ga : a < 2 ^ n) (gb : b < 2 ^ n) (hls : lsKab n a b = true) : Met l yX1_keepIfLeast wsX1_keepIfLeast ({ frames := 5, cells := 2, slots := 11, locals := 111 }) (va_Pc [.ref q, .int (zI (a)), .int (zI (b)), .int (zI (n))] (fun U => U.heap.size = sz ∧ va_P D vwCl (([(q, .inr (3, [.int (zI (mk)), .ref li])), (li, .inr (1, [.int (zI (mo)), .ref eA, .int (zI (((k : Nat) : Int)))]))] ++ TT t eA k f LP pv)) U.heap ∧ va_K D vwCl (TY t) U ∧ va_D (fun _ => True) (([(q, .inr (3, [.int (zI (mk)), .ref li])), (li, .inr (1, [.int (zI (mo)), .ref eA, .int (zI (((k : Nat) : Int)))]))] ++ TT t eA k f LP pv)) ∧ jK ad d0 tc (va_A (([(q, .inr (3, [.int (zI (mk)), .ref li])), (li, .inr (1, [.int (zI (mo)), .ref eA, .int (zI (((k : Nat) : Int)))]))] ++ TT t eA k f LP pv)) sz) U U.heap)) (va_Qv (fun (u : Nat × (Nat → Option Nat) × List Nat × (Nat → Int32)) => lsOK ad u.2.2.1 u.2.2.2 u.2.1 (cs ++ [1000 * a + b])) (fun (u : Nat × (Nat → Option Nat) × List Nat × (Nat → Int32)) t1 => va_P D vwCl (([(q, .inr (3, [.int (zI (mk)), .ref li])), (li, .inr (1, [.int (zI (mo + 1)), .ref u.1, .int (zI (((k + 1 : Nat) : Int)))]))] ++ TT t (u.1) (k + 1) (u.2.1) (u.2.2.1) (u.2.2.2))) t1.heap ∧ va_K D vwCl (TY t) t1 ∧ va_D (va_A (([(q, .inr (3, [.int (zI (mk)), .ref li])), (li, .inr (1, [.int (zI (mo)), .ref eA, .int (zI (((k : Nat) : Int)))]))] ++ TT t eA k f LP pv)) sz) (([(q, .inr (3, [.int (zI (mk)), .ref li])), (li, .inr (1, [.int (zI (mo + 1)), .ref u.1, .int (zI (((k + 1 : Nat) : Int)))]))] ++ TT t (u.1) (k + 1) (u.2.1) (u.2.2.1) (u.2.2.2)))) (va_A (([(q, .inr (3, [.int (zI (mk)), .ref li])), (li, .inr (1, [.int (zI (mo)), .ref eA, .int (zI (((k : Nat) : Int)))]))] ++ TT t eA k f LP pv)) sz)) 2 11 (va_A (([(q, .inr (3, [.int (zI (mk)), .ref li])), (li, .inr (1, [.int (zI (mo)), .ref eA, .int (zI (((k : Nat) : Int)))]))] ++ TT t eA k f LP pv)) sz) := by
  refine Met.ofW (cc := cX1_keepIfLeast) (maxL := 11) (ret := none) (by decide) rfl ?_
  intro p e s m args below meth c s₁ B hml hv
  obtain ⟨rfl, hsz, hP, hK, hD0, hJ⟩ := hv
  have hx := B.exec
  have hb := B.bytes
  have hr := B.returns
  have hts := atoms_spec (ws := wsX1_keepIfLeast) B.pre
  have hown : s.vm.findClass RX1 = some m.cls := findClass_of_methodNamed B.named
  have hlocks := B.notSynchronized
  subst hsz
  have hD := hD0.self (sz := s.heap.size)
  generalize hAe : va_A (([(q, .inr (3, [.int (zI (mk)), .ref li])), (li, .inr (1, [.int (zI (mo)), .ref eA, .int (zI (((k : Nat) : Int)))]))] ++ TT t eA k f LP pv)) s.heap.size = AA at hD hJ ⊢
  have hA : ∀ q : Nat, s.heap.size ≤ q → AA q := fun q h => by rw [← hAe]; exact Or.inr h
  have hS : va_S AA s.heap s.heap [] := va_S.rf
  have hP : va_P D vwCl (([(q, .inr (3, [.int (zI (mk)), .ref li])), (li, .inr (1, [.int (zI (mo)), .ref eA, .int (zI (((k : Nat) : Int)))]))] ++ TT t eA k f LP pv)) s.heap := hP
  have hl := lv_entry ([.ref q, .int (zI (a)), .int (zI (b)), .int (zI (n))]) (n := 11) (Nat.le_of_ble_eq_true rfl)
  rw [lg_entry_eq]
  generalize (lg_sl ([.ref q, .int (zI (a)), .int (zI (b)), .int (zI (n))]) ++ List.replicate (11 - (lg_sl ([.ref q, .int (zI (a)), .int (zI (b)), .int (zI (n))])).length) Slot.unset).toArray = ls at hl ⊢
  have hl : lv_has ls 11 [(0, .ref q), (1, .int (zI (a))), (2, .int (zI (b))), (3, .int (zI (n)))] := hl
  have iX1 : ∀ w ∈ u_ws RX1 TX1 2, w ∈ wsX1_keepIfLeast := by decide +kernel
  have b0 := pw7 gn
  refine lv_iload_n hx hb dX1_keepIfLeast_0 rfl (lv_at hl 1 rfl) ?_
  refine n_i2l (a := a) hx hb (by omega) dX1_keepIfLeast_1 ?_
  refine lv_iload_n hx hb dX1_keepIfLeast_2 rfl (lv_at hl 2 rfl) ?_
  refine n_i2l (a := b) hx hb (by omega) dX1_keepIfLeast_3 ?_
  refine vp_callSi (va_runS (As := [.long (lN (a)), .long (lN (b))]) (rest := []) ⟨hx, hb, hml, hown, hts⟩ (c_X1_codeOf l a b (by omega) (by omega)) (va_cwS 2 hts gX1_keepIfLeast_X1_codeOf rfl rfl rfl (by decide +kernel) ⟨Nat.le_of_ble_eq_true rfl, Nat.le_of_ble_eq_true rfl⟩) ⟨fun a U g mk q => q, fun U hU hW => ⟨rfl, trivial⟩⟩ rfl rfl hl.1 rfl (lv_room (Nat.le_of_ble_eq_true rfl)) dX1_keepIfLeast_4 ⟨Nat.le_of_ble_eq_true rfl, Nat.le_of_ble_eq_true rfl⟩).run (fun r hr4 => ?_)
  obtain rfl := hr4
  refine lv_istore (lv' := [(4, .int (zI (((1000 * (a) + (b) : Nat) : Int)))), (0, .ref q), (1, .int (zI (a))), (2, .int (zI (b))), (3, .int (zI (n)))]) hx hb dX1_keepIfLeast_7 hl (by decide) rfl (fun ls hl => ?_)
  refine lv_iconst (v := zI 0) hx hb dX1_keepIfLeast_9 rfl ?_
  refine z_re (e2 := ((0 : Nat) : Int)) (rfl) ?_
  refine lv_istore (lv' := [(5, .int (zI (((0 : Nat) : Int)))), (4, .int (zI (((1000 * (a) + (b) : Nat) : Int)))), (0, .ref q), (1, .int (zI (a))), (2, .int (zI (b))), (3, .int (zI (n)))]) hx hb dX1_keepIfLeast_10 hl (by decide) rfl (fun ls hl => ?_)
  have lp12 : ∀ (NN : Nat) (w : Nat) (q1 : w ≤ 8) (q2 : ∀ w1 o1, w1 < w → o1 < 4 → lsP n a b w1 o1 = false), 8 - w < NN → ∀ (H : Heap) (locs : List Loc), va_P D vwCl ([(q, .inr (3, [.int (zI (mk)), .ref li])), (li, .inr (1, [.int (zI (mo)), .ref eA, .int (zI (((k : Nat) : Int)))]))] ++ TT t eA k f LP pv) H → va_D AA ([(q, .inr (3, [.int (zI (mk)), .ref li])), (li, .inr (1, [.int (zI (mo)), .ref eA, .int (zI (((k : Nat) : Int)))]))] ++ TT t eA k f LP pv) → va_S AA s.heap H locs → ∀ (ls : Array Slot), lv_has ls 11 [(0, .ref q), (1, .int (zI (a))), (2, .int (zI (b))), (3, .int (zI (n))), (4, .int (zI (((1000 * a + b : Nat) : Int)))), (5, .int (zI (w)))] → W p l e (headSpec wsX1_keepIfLeast ({ frames := 5, cells := 2, slots := 11, locals := 111 })).room s m ([.ref q, .int (zI (a)), .int (zI (b)), .int (zI (n))] : List Value).toArray below meth c H locs 0 0 (MQ below (va_Qv (fun (u : Nat × (Nat → Option Nat) × List Nat × (Nat → Int32)) => lsOK ad u.2.2.1 u.2.2.2 u.2.1 (cs ++ [1000 * a + b])) (fun (u : Nat × (Nat → Option Nat) × List Nat × (Nat → Int32)) t1 => va_P D vwCl (([(q, .inr (3, [.int (zI (mk)), .ref li])), (li, .inr (1, [.int (zI (mo + 1)), .ref u.1, .int (zI (((k + 1 : Nat) : Int)))]))] ++ TT t (u.1) (k + 1) (u.2.1) (u.2.2.1) (u.2.2.2))) t1.heap ∧ va_K D vwCl (TY t) t1 ∧ va_D (AA) (([(q, .inr (3, [.int (zI (mk)), .ref li])), (li, .inr (1, [.int (zI (mo + 1)), .ref u.1, .int (zI (((k + 1 : Nat) : Int)))]))] ++ TT t (u.1) (k + 1) (u.2.1) (u.2.2.1) (u.2.2.2)))) (AA)) ([.ref q, .int (zI (a)), .int (zI (b)), .int (zI (n))] : List Value).toArray s 2 11 (AA)) (F0 m 12 ls []) := by
    intro NN
    induction NN with
    | zero =>
      intro w q1 q2 hmu
      exact absurd hmu (Nat.not_lt_zero _)
    | succ NN ih12 =>
      intro w q1 q2 hmu H locs hP hD hS ls hl
      refine lv_iload hx hb dX1_keepIfLeast_12 (lv_at hl 5 rfl) ?_
      refine lv_bipush (v := zI 8) hx hb dX1_keepIfLeast_14 (by decide +kernel) ?_
      refine z_icmp_ge (tgt := 90) hx hb dX1_keepIfLeast_16 (by decide) (by omega) (by omega) (fun c16 => ?_) (fun c16 => ?_)
      · rcases Nat.eq_zero_or_pos k with hk0 | hk0
        · rw [he hk0, hk0, TT_z, List.append_nil] at hP hD
          refine lv_aload_n hx hb dX1_keepIfLeast_90 rfl (lv_at hl 0 rfl) ?_
          refine va_get (D := D) (ci := 3) (v := .ref li) (C := RX1) (T := TX1) (N := 2) hx hb hts iX1 hown hK hP 0 rfl rfl 1 (by decide) (hts (.fieldLink RX1 16 "CancelRows$PairList" "codes" "Ljava/util/ArrayList;") (by decide +kernel)) (fun _ h9 => h9) rfl dX1_keepIfLeast_91 ?_
          refine lv_iload hx hb dX1_keepIfLeast_94 (lv_at hl 4 rfl) ?_
          rcases Int.lt_or_le 127 ((1000 * a + b : Nat) : Int) with hcd | hcd
          · skip
            have hPc := hP.sub (ws' := []) [] rfl
            have hDc := hD.sub (ws' := []) [] (by decide) rfl
            have hFc := va_free (wc := []) hD hS hA [] rfl
            refine va_callr (va_runS (As := [.int (zI (((1000 * a + b : Nat) : Int)))]) (rest := [.ref li]) ⟨hx, hb, hml, hown, hts⟩ (c_J6_valueOf_n l D t H.size ad d0 tc ((1000 * a + b : Nat) : Int) (by omega)) (va_cwS 1 hts gX1_keepIfLeast_J6_valueOf_2dffe rfl rfl rfl (by decide +kernel) ⟨Nat.le_of_ble_eq_true rfl, Nat.le_of_ble_eq_true rfl⟩) ⟨fun a U g mk q => by obtain ⟨q0, q1, qP, qK, qD, qS0⟩ := q; exact ⟨q0, q1, qP, va_K.moved (u := U) (U := U.calling g mk a) (Vm.Alike.refl U.vm) qK, qD, qS0.moved (u := U) (U := U.calling g mk a) (Vm.Alike.refl U.vm)⟩, fun U hU hW => ⟨rfl, by rw [hU], by rw [hU]; exact hPc, va_K.moved hW.alike hK, hDc.weaken (fun _ _ _ _ => trivial), by rw [hU]; exact (((hJ.kept hS.2.1).narrow hFc)).moved hW.alike⟩⟩ rfl rfl hl.1 rfl (lv_room (Nat.le_of_ble_eq_true rfl)) dX1_keepIfLeast_96 ⟨Nat.le_of_ble_eq_true rfl, Nat.le_of_ble_eq_true rfl⟩) hS (fun q _ h => hFc q h) hFc (fun u bx tq H1 locs ht hvm hr96 hB hz1 hk1 hS => ?_)
            obtain ⟨hP1, hK1, hD1⟩ := hB
            rw [ht] at hP1
            obtain ⟨hP, hD⟩ := va_join (wr := [(q, .inr (3, [.int (zI (mk)), .ref li])), (li, .inr (1, [.int (zI (mo)), .ref d0, .int (zI (((0 : Nat) : Int)))]))]) (w1 := [(bx, .inr (0, [.int (zI ((((1000 * a + b : Nat) : Int))))]))]) hP hD [] [0, 1] rfl rfl (by decide) (by decide) hk1 hFc hP1 hD1
            generalize H1 = H at hP hS ⊢
            have hP : va_P D vwCl [(q, .inr (3, [.int (zI (mk)), .ref li])), (li, .inr (1, [.int (zI (mo)), .ref d0, .int (zI (((0 : Nat) : Int)))])), (bx, .inr (0, [.int (zI ((((1000 * a + b : Nat) : Int))))]))] H := hP
            have hD : va_D AA [(q, .inr (3, [.int (zI (mk)), .ref li])), (li, .inr (1, [.int (zI (mo)), .ref d0, .int (zI (((0 : Nat) : Int)))])), (bx, .inr (0, [.int (zI ((((1000 * a + b : Nat) : Int))))]))] := hD
            have hPc := hP.sub (ws' := [(li, .inr (1, [.int (zI (mo)), .ref d0, .int (zI (((0 : Nat) : Int)))]))]) [1] rfl
            have hDc := hD.sub (ws' := [(li, .inr (1, [.int (zI (mo)), .ref d0, .int (zI (((0 : Nat) : Int)))]))]) [1] (by decide) rfl
            have hFc := va_free (wc := [(li, .inr (1, [.int (zI (mo)), .ref d0, .int (zI (((0 : Nat) : Int)))]))]) hD hS hA [1] rfl
            refine va_calli (va_runV (As := [.ref bx]) (rest := []) ⟨hx, hb, hml, hown, hts⟩ (c_add_0 l D t H.size ad d0 tc li mo bx) (cwV 1 hts gX1_keepIfLeast_Jx4a65c_add_9ea2d rfl rfl rfl (by decide +kernel) ⟨Nat.le_of_ble_eq_true rfl, Nat.le_of_ble_eq_true rfl⟩) ⟨fun a U g mk q => by obtain ⟨q0, q1, qP, qK, qD, qS0, qS1⟩ := q; exact ⟨q0, q1, qP, va_K.moved (u := U) (U := U.calling g mk a) (Vm.Alike.refl U.vm) qK, qD, qS0.moved (u := U) (U := U.calling g mk a) (Vm.Alike.refl U.vm), qS1.moved (u := U) (U := U.calling g mk a) (Vm.Alike.refl U.vm)⟩, va_recv hK hPc (ci := 1) (q0 := 0) rfl rfl, fun U hU hW => ⟨rfl, by rw [hU], by rw [hU]; exact hPc, va_K.moved hW.alike hK, hDc.weaken (fun _ _ _ _ => trivial), by rw [hU]; exact (((hJ.kept hS.2.1).narrow hFc)).moved hW.alike, by rw [hU]; exact (bx_O hK hP hD (ci := 0) (q0 := 2) rfl rfl [1] rfl (by decide)).moved hW.alike⟩⟩ rfl rfl hl.1 rfl (lv_room (Nat.le_of_ble_eq_true rfl)) dX1_keepIfLeast_99 ⟨Nat.le_of_ble_eq_true rfl, Nat.le_of_ble_eq_true rfl⟩) hS (fun q _ h => hFc q h) hFc (fun r u tq H1 locs ht hvm hr99 hB hz1 hk1 hS => ?_)
            obtain ⟨eA_99, rfl⟩ : ∃ z, z = u := ⟨_, rfl⟩
            obtain ⟨hP1, hK1, hD1⟩ := hB
            rw [ht] at hP1
            obtain ⟨hP, hD⟩ := va_join (wr := [(q, .inr (3, [.int (zI (mk)), .ref li])), (bx, .inr (0, [.int (zI ((((1000 * a + b : Nat) : Int))))]))]) (w1 := [(li, .inr (1, [.int (zI (mo + 1)), .ref eA_99, .int (zI (((1 : Nat) : Int)))])), aQ t 6 eA_99 10 (va_up (fun _ => none) 0 (some bx))]) hP hD [1] [0, 2] rfl rfl (by decide) (by decide) hk1 hFc hP1 hD1
            generalize H1 = H at hP hS ⊢
            have hP : va_P D vwCl [(q, .inr (3, [.int (zI (mk)), .ref li])), (bx, .inr (0, [.int (zI ((((1000 * a + b : Nat) : Int))))])), (li, .inr (1, [.int (zI (mo + 1)), .ref eA_99, .int (zI (((1 : Nat) : Int)))])), aQ t 6 eA_99 10 (va_up (fun _ => none) 0 (some bx))] H := hP
            have hD : va_D AA [(q, .inr (3, [.int (zI (mk)), .ref li])), (bx, .inr (0, [.int (zI ((((1000 * a + b : Nat) : Int))))])), (li, .inr (1, [.int (zI (mo + 1)), .ref eA_99, .int (zI (((1 : Nat) : Int)))])), aQ t 6 eA_99 10 (va_up (fun _ => none) 0 (some bx))] := hD
            try dsimp only at hr99
            refine lv_pop hx hb dX1_keepIfLeast_102 rfl ?_
            have hP := hP.sub (ws' := [(q, .inr (3, [.int (zI (mk)), .ref li])), (li, .inr (1, [.int (zI (mo + 1)), .ref eA_99, .int (zI (((1 : Nat) : Int)))])), aQ t 6 eA_99 10 (va_up (fun _ => none) 0 (some bx)), (bx, .inr (0, [.int (zI ((((1000 * a + b : Nat) : Int))))]))]) [0, 2, 3, 1] rfl
            have hD := hD.sub (ws' := [(q, .inr (3, [.int (zI (mk)), .ref li])), (li, .inr (1, [.int (zI (mo + 1)), .ref eA_99, .int (zI (((1 : Nat) : Int)))])), aQ t 6 eA_99 10 (va_up (fun _ => none) 0 (some bx)), (bx, .inr (0, [.int (zI ((((1000 * a + b : Nat) : Int))))]))]) [0, 2, 3, 1] (by decide) rfl
            have hk1 : k + 1 = 1 := by omega
            have hT : TT t eA_99 (k + 1) (va_up (fun _ => none) 0 (some (bx))) ([bx]) (fun _ => zI ((1000 * a + b : Nat) : Int)) = [aQ t 6 eA_99 10 (va_up (fun _ => none) 0 (some bx)), (bx, .inr (0, [.int (zI ((((1000 * a + b : Nat) : Int))))]))] := TT_k t eA_99 _ _ _ (Nat.succ_pos k)
            have hP : va_P D vwCl ([(q, .inr (3, [.int (zI (mk)), .ref li])), (li, .inr (1, [.int (zI (mo + 1)), .ref eA_99, .int (zI (((k + 1 : Nat) : Int)))]))] ++ TT t eA_99 (k + 1) (va_up (fun _ => none) 0 (some (bx))) ([bx]) (fun _ => zI ((1000 * a + b : Nat) : Int))) H := by rw [hT, hk1]; exact hP
            have hD : va_D AA ([(q, .inr (3, [.int (zI (mk)), .ref li])), (li, .inr (1, [.int (zI (mo + 1)), .ref eA_99, .int (zI (((k + 1 : Nat) : Int)))]))] ++ TT t eA_99 (k + 1) (va_up (fun _ => none) 0 (some (bx))) ([bx]) (fun _ => zI ((1000 * a + b : Nat) : Int))) := by rw [hT, hk1]; exact hD
            exact W.vret hx hb hr (fun tq ht hW => ⟨⟨(eA_99, va_up (fun _ => none) 0 (some (bx)), [bx], fun _ => zI ((1000 * a + b : Nat) : Int)), rfl, by rw [show cs = [] from List.eq_nil_of_length_eq_zero (by omega)]; exact lsOK_app (lsOK_nil ad ([bx]) (fun _ => zI ((1000 * a + b : Nat) : Int)) (fun _ => none)) rfl (fun z w hz => hz) (Or.inl ⟨List.mem_cons_self, rfl⟩), by rw [ht]; exact hP, va_K.moved hW.alike hK, hD⟩, hS.F ht⟩) hS.2.2 dX1_keepIfLeast_103
          · skip
            have hPc := hP.sub (ws' := []) [] rfl
            refine va_csq (va_runS (As := [.int (zI (((1000 * a + b : Nat) : Int)))]) (rest := [.ref li]) ⟨hx, hb, hml, hown, hts⟩ (c_J6_valueOf_c l D t ad d0 tc ((1000 * a + b : Nat) : Int) (by omega)) (va_cwS 1 hts gX1_keepIfLeast_J6_valueOf_2dffe rfl rfl rfl (by decide +kernel) ⟨Nat.le_of_ble_eq_true rfl, Nat.le_of_ble_eq_true rfl⟩) ⟨fun a U g mk q => by obtain ⟨q0, qP, qK, qS0⟩ := q; exact ⟨q0, qP, va_K.moved (u := U) (U := U.calling g mk a) (Vm.Alike.refl U.vm) qK, qS0.moved (u := U) (U := U.calling g mk a) (Vm.Alike.refl U.vm)⟩, fun U hU hW => ⟨rfl, by rw [hU]; exact hPc, va_K.moved hW.alike hK, by rw [hU]; exact (((hJ.kept hS.2.1).narrow (fun q h => h.elim))).moved hW.alike⟩⟩ rfl rfl hl.1 rfl (lv_room (Nat.le_of_ble_eq_true rfl)) dX1_keepIfLeast_96 ⟨Nat.le_of_ble_eq_true rfl, Nat.le_of_ble_eq_true rfl⟩).run (fun r hr96 => ?_)
            obtain rfl := hr96
            have hPc := hP.sub (ws' := [(li, .inr (1, [.int (zI (mo)), .ref d0, .int (zI (((0 : Nat) : Int)))]))]) [1] rfl
            have hDc := hD.sub (ws' := [(li, .inr (1, [.int (zI (mo)), .ref d0, .int (zI (((0 : Nat) : Int)))]))]) [1] (by decide) rfl
            have hFc := va_free (wc := [(li, .inr (1, [.int (zI (mo)), .ref d0, .int (zI (((0 : Nat) : Int)))]))]) hD hS hA [1] rfl
            refine va_calli (va_runV (As := [.ref ((ad (((1000 * a + b : Nat) : Int) + 128).toNat))]) (rest := []) ⟨hx, hb, hml, hown, hts⟩ (c_add_0 l D t H.size ad d0 tc li mo (ad (((1000 * a + b : Nat) : Int) + 128).toNat)) (cwV 1 hts gX1_keepIfLeast_Jx4a65c_add_9ea2d rfl rfl rfl (by decide +kernel) ⟨Nat.le_of_ble_eq_true rfl, Nat.le_of_ble_eq_true rfl⟩) ⟨fun a U g mk q => by obtain ⟨q0, q1, qP, qK, qD, qS0, qS1⟩ := q; exact ⟨q0, q1, qP, va_K.moved (u := U) (U := U.calling g mk a) (Vm.Alike.refl U.vm) qK, qD, qS0.moved (u := U) (U := U.calling g mk a) (Vm.Alike.refl U.vm), qS1.moved (u := U) (U := U.calling g mk a) (Vm.Alike.refl U.vm)⟩, va_recv hK hPc (ci := 1) (q0 := 0) rfl rfl, fun U hU hW => ⟨rfl, by rw [hU], by rw [hU]; exact hPc, va_K.moved hW.alike hK, hDc.weaken (fun _ _ _ _ => trivial), by rw [hU]; exact (((hJ.kept hS.2.1).narrow hFc)).moved hW.alike, by rw [hU]; exact (((hJ.1.1 _ (by omega)).kept hS.2.1).narrow hFc).moved hW.alike⟩⟩ rfl rfl hl.1 rfl (lv_room (Nat.le_of_ble_eq_true rfl)) dX1_keepIfLeast_99 ⟨Nat.le_of_ble_eq_true rfl, Nat.le_of_ble_eq_true rfl⟩) hS (fun q _ h => hFc q h) hFc (fun r u tq H1 locs ht hvm hr99 hB hz1 hk1 hS => ?_)
            obtain ⟨eA_99, rfl⟩ : ∃ z, z = u := ⟨_, rfl⟩
            obtain ⟨hP1, hK1, hD1⟩ := hB
            rw [ht] at hP1
            obtain ⟨hP, hD⟩ := va_join (wr := [(q, .inr (3, [.int (zI (mk)), .ref li]))]) (w1 := [(li, .inr (1, [.int (zI (mo + 1)), .ref eA_99, .int (zI (((1 : Nat) : Int)))])), aQ t 6 eA_99 10 (va_up (fun _ => none) 0 (some ((ad (((1000 * a + b : Nat) : Int) + 128).toNat))))]) hP hD [1] [0] rfl rfl (by decide) (by decide) hk1 hFc hP1 hD1
            generalize H1 = H at hP hS ⊢
            have hP : va_P D vwCl [(q, .inr (3, [.int (zI (mk)), .ref li])), (li, .inr (1, [.int (zI (mo + 1)), .ref eA_99, .int (zI (((1 : Nat) : Int)))])), aQ t 6 eA_99 10 (va_up (fun _ => none) 0 (some ((ad (((1000 * a + b : Nat) : Int) + 128).toNat))))] H := hP
            have hD : va_D AA [(q, .inr (3, [.int (zI (mk)), .ref li])), (li, .inr (1, [.int (zI (mo + 1)), .ref eA_99, .int (zI (((1 : Nat) : Int)))])), aQ t 6 eA_99 10 (va_up (fun _ => none) 0 (some ((ad (((1000 * a + b : Nat) : Int) + 128).toNat))))] := hD
            try dsimp only at hr99
            refine lv_pop hx hb dX1_keepIfLeast_102 rfl ?_
            have hP := hP.sub (ws' := [(q, .inr (3, [.int (zI (mk)), .ref li])), (li, .inr (1, [.int (zI (mo + 1)), .ref eA_99, .int (zI (((1 : Nat) : Int)))])), aQ t 6 eA_99 10 (va_up (fun _ => none) 0 (some ((ad (((1000 * a + b : Nat) : Int) + 128).toNat))))]) [0, 1, 2] rfl
            have hD := hD.sub (ws' := [(q, .inr (3, [.int (zI (mk)), .ref li])), (li, .inr (1, [.int (zI (mo + 1)), .ref eA_99, .int (zI (((1 : Nat) : Int)))])), aQ t 6 eA_99 10 (va_up (fun _ => none) 0 (some ((ad (((1000 * a + b : Nat) : Int) + 128).toNat))))]) [0, 1, 2] (by decide) rfl
            have hk1 : k + 1 = 1 := by omega
            have hT : TT t eA_99 (k + 1) (va_up (fun _ => none) 0 (some ((ad (((1000 * a + b : Nat) : Int) + 128).toNat)))) ([]) (fun _ => 0) = [aQ t 6 eA_99 10 (va_up (fun _ => none) 0 (some ((ad (((1000 * a + b : Nat) : Int) + 128).toNat))))] := TT_k t eA_99 _ _ _ (Nat.succ_pos k)
            have hP : va_P D vwCl ([(q, .inr (3, [.int (zI (mk)), .ref li])), (li, .inr (1, [.int (zI (mo + 1)), .ref eA_99, .int (zI (((k + 1 : Nat) : Int)))]))] ++ TT t eA_99 (k + 1) (va_up (fun _ => none) 0 (some ((ad (((1000 * a + b : Nat) : Int) + 128).toNat)))) ([]) (fun _ => 0)) H := by rw [hT, hk1]; exact hP
            have hD : va_D AA ([(q, .inr (3, [.int (zI (mk)), .ref li])), (li, .inr (1, [.int (zI (mo + 1)), .ref eA_99, .int (zI (((k + 1 : Nat) : Int)))]))] ++ TT t eA_99 (k + 1) (va_up (fun _ => none) 0 (some ((ad (((1000 * a + b : Nat) : Int) + 128).toNat)))) ([]) (fun _ => 0)) := by rw [hT, hk1]; exact hD
            refine W.widen (k := 2) (n := 11) (by decide) (by decide) ?_
            exact W.vret hx hb hr (fun tq ht hW => ⟨⟨(eA_99, va_up (fun _ => none) 0 (some ((ad (((1000 * a + b : Nat) : Int) + 128).toNat))), [], fun _ => 0), rfl, by rw [show cs = [] from List.eq_nil_of_length_eq_zero (by omega)]; exact lsOK_app (lsOK_nil ad ([]) (fun _ => 0) (fun _ => none)) rfl (fun z w hz => hz) (bx_c (by omega)), by rw [ht]; exact hP, va_K.moved hW.alike hK, hD⟩, hS.F ht⟩) hS.2.2 dX1_keepIfLeast_103
        · rw [TT_k t eA f LP pv hk0] at hP hD
          have hP : va_P D vwCl ([(q, .inr (3, [.int (zI (mk)), .ref li])), (li, .inr (1, [.int (zI (mo)), .ref eA, .int (zI (((k : Nat) : Int)))])), aQ t 6 eA 10 (f)] ++ PT LP pv) H := hP
          have hD : va_D AA ([(q, .inr (3, [.int (zI (mk)), .ref li])), (li, .inr (1, [.int (zI (mo)), .ref eA, .int (zI (((k : Nat) : Int)))])), aQ t 6 eA 10 (f)] ++ PT LP pv) := hD
          refine lv_aload_n hx hb dX1_keepIfLeast_90 rfl (lv_at hl 0 rfl) ?_
          refine va_get (D := D) (ci := 3) (v := .ref li) (C := RX1) (T := TX1) (N := 2) hx hb hts iX1 hown hK hP 0 rfl rfl 1 (by decide) (hts (.fieldLink RX1 16 "CancelRows$PairList" "codes" "Ljava/util/ArrayList;") (by decide +kernel)) (fun _ h9 => h9) rfl dX1_keepIfLeast_91 ?_
          refine lv_iload hx hb dX1_keepIfLeast_94 (lv_at hl 4 rfl) ?_
          rcases Int.lt_or_le 127 ((1000 * a + b : Nat) : Int) with hcd | hcd
          · skip
            have hPc := hP.sub (ws' := []) [] rfl
            have hDc := hD.sub (ws' := []) [] (by decide) rfl
            have hFc := va_free (wc := []) hD hS hA [] rfl
            refine va_callr (va_runS (As := [.int (zI (((1000 * a + b : Nat) : Int)))]) (rest := [.ref li]) ⟨hx, hb, hml, hown, hts⟩ (c_J6_valueOf_n l D t H.size ad d0 tc ((1000 * a + b : Nat) : Int) (by omega)) (va_cwS 1 hts gX1_keepIfLeast_J6_valueOf_2dffe rfl rfl rfl (by decide +kernel) ⟨Nat.le_of_ble_eq_true rfl, Nat.le_of_ble_eq_true rfl⟩) ⟨fun a U g mk q => by obtain ⟨q0, q1, qP, qK, qD, qS0⟩ := q; exact ⟨q0, q1, qP, va_K.moved (u := U) (U := U.calling g mk a) (Vm.Alike.refl U.vm) qK, qD, qS0.moved (u := U) (U := U.calling g mk a) (Vm.Alike.refl U.vm)⟩, fun U hU hW => ⟨rfl, by rw [hU], by rw [hU]; exact hPc, va_K.moved hW.alike hK, hDc.weaken (fun _ _ _ _ => trivial), by rw [hU]; exact (((hJ.kept hS.2.1).narrow hFc)).moved hW.alike⟩⟩ rfl rfl hl.1 rfl (lv_room (Nat.le_of_ble_eq_true rfl)) dX1_keepIfLeast_96 ⟨Nat.le_of_ble_eq_true rfl, Nat.le_of_ble_eq_true rfl⟩) hS (fun q _ h => hFc q h) hFc (fun u bx tq H1 locs ht hvm hr96 hB hz1 hk1 hS => ?_)
            obtain ⟨hP1, hK1, hD1⟩ := hB
            rw [ht] at hP1
            obtain ⟨hP, hD⟩ := va_joinQ (X := [(q, .inr (3, [.int (zI (mk)), .ref li])), (li, .inr (1, [.int (zI (mo)), .ref eA, .int (zI (((k : Nat) : Int)))])), aQ t 6 eA 10 (f)]) (cx := []) (pl := PT LP pv) (wr := [(q, .inr (3, [.int (zI (mk)), .ref li])), (li, .inr (1, [.int (zI (mo)), .ref eA, .int (zI (((k : Nat) : Int)))])), aQ t 6 eA 10 (f)]) (w1 := [(bx, .inr (0, [.int (zI ((((1000 * a + b : Nat) : Int))))]))]) hP hD [] [0, 1, 2] rfl rfl (by decide) (by decide) hk1 hFc hP1 hD1
            generalize H1 = H at hP hS ⊢
            have hP : va_P D vwCl ([(q, .inr (3, [.int (zI (mk)), .ref li])), (li, .inr (1, [.int (zI (mo)), .ref eA, .int (zI (((k : Nat) : Int)))])), aQ t 6 eA 10 (f), (bx, .inr (0, [.int (zI ((((1000 * a + b : Nat) : Int))))]))] ++ PT LP pv) H := hP
            have hD : va_D AA ([(q, .inr (3, [.int (zI (mk)), .ref li])), (li, .inr (1, [.int (zI (mo)), .ref eA, .int (zI (((k : Nat) : Int)))])), aQ t 6 eA 10 (f), (bx, .inr (0, [.int (zI ((((1000 * a + b : Nat) : Int))))]))] ++ PT LP pv) := hD
            have hPc := hP.sub (ws' := [(li, .inr (1, [.int (zI (mo)), .ref eA, .int (zI (((k : Nat) : Int)))])), aQ t 6 eA 10 (f)]) [1, 2] rfl
            have hDc := hD.sub (ws' := [(li, .inr (1, [.int (zI (mo)), .ref eA, .int (zI (((k : Nat) : Int)))])), aQ t 6 eA 10 (f)]) [1, 2] (by decide) rfl
            have hFc := va_free (wc := [(li, .inr (1, [.int (zI (mo)), .ref eA, .int (zI (((k : Nat) : Int)))])), aQ t 6 eA 10 (f)]) hD hS hA [1, 2] rfl
            refine va_calli (va_runV (As := [.ref bx]) (rest := []) ⟨hx, hb, hml, hown, hts⟩ (c_add_k l D t H.size ad d0 tc li mo bx eA k f (by omega)) (cwV 1 hts gX1_keepIfLeast_Jx4a65c_add_9ea2d rfl rfl rfl (by decide +kernel) ⟨Nat.le_of_ble_eq_true rfl, Nat.le_of_ble_eq_true rfl⟩) ⟨fun a U g mk q => by obtain ⟨q0, q1, qP, qK, qD, qS0, qS1⟩ := q; exact ⟨q0, q1, qP, va_K.moved (u := U) (U := U.calling g mk a) (Vm.Alike.refl U.vm) qK, qD, qS0.moved (u := U) (U := U.calling g mk a) (Vm.Alike.refl U.vm), qS1.moved (u := U) (U := U.calling g mk a) (Vm.Alike.refl U.vm)⟩, va_recv hK hPc (ci := 1) (q0 := 0) rfl rfl, fun U hU hW => ⟨rfl, by rw [hU], by rw [hU]; exact hPc, va_K.moved hW.alike hK, hDc.weaken (fun _ _ _ _ => trivial), by rw [hU]; exact (((hJ.kept hS.2.1).narrow hFc)).moved hW.alike, by rw [hU]; exact (bx_O hK hP hD (ci := 0) (q0 := 3) rfl rfl [1, 2] rfl (by decide)).moved hW.alike⟩⟩ rfl rfl hl.1 rfl (lv_room (Nat.le_of_ble_eq_true rfl)) dX1_keepIfLeast_99 ⟨Nat.le_of_ble_eq_true rfl, Nat.le_of_ble_eq_true rfl⟩) hS (fun q _ h => hFc q h) hFc (fun r u tq H1 locs ht hvm hr99 hB hz1 hk1 hS => ?_)
            obtain ⟨hP1, hK1, hD1⟩ := hB
            rw [ht] at hP1
            obtain ⟨hP, hD⟩ := va_joinQ (X := [(q, .inr (3, [.int (zI (mk)), .ref li])), (li, .inr (1, [.int (zI (mo)), .ref eA, .int (zI (((k : Nat) : Int)))])), aQ t 6 eA 10 (f), (bx, .inr (0, [.int (zI ((((1000 * a + b : Nat) : Int))))]))]) (cx := [(li, .inr (1, [.int (zI (mo)), .ref eA, .int (zI (((k : Nat) : Int)))])), aQ t 6 eA 10 (f)]) (pl := PT LP pv) (wr := [(q, .inr (3, [.int (zI (mk)), .ref li])), (bx, .inr (0, [.int (zI ((((1000 * a + b : Nat) : Int))))]))]) (w1 := [(li, .inr (1, [.int (zI (mo + 1)), .ref eA, .int (zI (((k + 1 : Nat) : Int)))])), aQ t 6 eA 10 (va_up f k (some bx))]) hP hD [1, 2] [0, 3] rfl rfl (by decide) (by decide) hk1 hFc hP1 hD1
            generalize H1 = H at hP hS ⊢
            have hP : va_P D vwCl ([(q, .inr (3, [.int (zI (mk)), .ref li])), (bx, .inr (0, [.int (zI ((((1000 * a + b : Nat) : Int))))])), (li, .inr (1, [.int (zI (mo + 1)), .ref eA, .int (zI (((k + 1 : Nat) : Int)))])), aQ t 6 eA 10 (va_up f k (some bx))] ++ PT LP pv) H := hP
            have hD : va_D AA ([(q, .inr (3, [.int (zI (mk)), .ref li])), (bx, .inr (0, [.int (zI ((((1000 * a + b : Nat) : Int))))])), (li, .inr (1, [.int (zI (mo + 1)), .ref eA, .int (zI (((k + 1 : Nat) : Int)))])), aQ t 6 eA 10 (va_up f k (some bx))] ++ PT LP pv) := hD
            try dsimp only at hr99
            refine lv_pop hx hb dX1_keepIfLeast_102 rfl ?_
            have hP := hP.part (X := [(q, .inr (3, [.int (zI (mk)), .ref li])), (bx, .inr (0, [.int (zI ((((1000 * a + b : Nat) : Int))))])), (li, .inr (1, [.int (zI (mo + 1)), .ref eA, .int (zI (((k + 1 : Nat) : Int)))])), aQ t 6 eA 10 (va_up f k (some bx))]) (cx := [(q, .inr (3, [.int (zI (mk)), .ref li])), (li, .inr (1, [.int (zI (mo + 1)), .ref eA, .int (zI (((k + 1 : Nat) : Int)))])), aQ t 6 eA 10 (va_up f k (some bx)), (bx, .inr (0, [.int (zI ((((1000 * a + b : Nat) : Int))))]))]) (pl := PT LP pv) [0, 2, 3, 1] rfl
            have hD := hD.part (X := [(q, .inr (3, [.int (zI (mk)), .ref li])), (bx, .inr (0, [.int (zI ((((1000 * a + b : Nat) : Int))))])), (li, .inr (1, [.int (zI (mo + 1)), .ref eA, .int (zI (((k + 1 : Nat) : Int)))])), aQ t 6 eA 10 (va_up f k (some bx))]) (cx := [(q, .inr (3, [.int (zI (mk)), .ref li])), (li, .inr (1, [.int (zI (mo + 1)), .ref eA, .int (zI (((k + 1 : Nat) : Int)))])), aQ t 6 eA 10 (va_up f k (some bx)), (bx, .inr (0, [.int (zI ((((1000 * a + b : Nat) : Int))))]))]) (pl := PT LP pv) [0, 2, 3, 1] (by decide) rfl
            have hrn : bx ∉ LP := pt_new (X := [(q, .inr (3, [.int (zI (mk)), .ref li])), (li, .inr (1, [.int (zI (mo + 1)), .ref eA, .int (zI (((k + 1 : Nat) : Int)))])), aQ t 6 eA 10 (va_up f k (some bx)), (bx, .inr (0, [.int (zI ((((1000 * a + b : Nat) : Int))))]))]) (i := 3) hD rfl
            have hP := fr_P (pt_perm [(q, .inr (3, [.int (zI (mk)), .ref li])), (li, .inr (1, [.int (zI (mo + 1)), .ref eA, .int (zI (((k + 1 : Nat) : Int)))])), aQ t 6 eA 10 (va_up f k (some bx))] hrn) hP
            have hD := fr_D (pt_perm [(q, .inr (3, [.int (zI (mk)), .ref li])), (li, .inr (1, [.int (zI (mo + 1)), .ref eA, .int (zI (((k + 1 : Nat) : Int)))])), aQ t 6 eA 10 (va_up f k (some bx))] hrn) hD
            have hT : TT t eA (k + 1) (va_up f k (some (bx))) (LP ++ [bx]) (va_up pv bx (zI ((1000 * a + b : Nat) : Int))) = aQ t 6 eA 10 (va_up f k (some bx)) :: PT (LP ++ [bx]) (va_up pv bx (zI ((1000 * a + b : Nat) : Int))) := TT_k t eA _ _ _ (Nat.succ_pos k)
            have hP : va_P D vwCl ([(q, .inr (3, [.int (zI (mk)), .ref li])), (li, .inr (1, [.int (zI (mo + 1)), .ref eA, .int (zI (((k + 1 : Nat) : Int)))]))] ++ TT t eA (k + 1) (va_up f k (some (bx))) (LP ++ [bx]) (va_up pv bx (zI ((1000 * a + b : Nat) : Int)))) H := by rw [hT]; exact hP
            have hD : va_D AA ([(q, .inr (3, [.int (zI (mk)), .ref li])), (li, .inr (1, [.int (zI (mo + 1)), .ref eA, .int (zI (((k + 1 : Nat) : Int)))]))] ++ TT t eA (k + 1) (va_up f k (some (bx))) (LP ++ [bx]) (va_up pv bx (zI ((1000 * a + b : Nat) : Int)))) := by rw [hT]; exact hD
            refine W.widen (k := 2) (n := 11) (by decide) (by decide) ?_
            exact W.vret hx hb hr (fun tq ht hW => ⟨⟨(eA, va_up f k (some (bx)), LP ++ [bx], va_up pv bx (zI ((1000 * a + b : Nat) : Int))), rfl, lsOK_app hcs hk (fun z w hz => bx_grow hz hrn) bx_new, by rw [ht]; exact hP, va_K.moved hW.alike hK, hD⟩, hS.F ht⟩) hS.2.2 dX1_keepIfLeast_103
          · skip
            have hPc := hP.sub (ws' := []) [] rfl
            refine va_csq (va_runS (As := [.int (zI (((1000 * a + b : Nat) : Int)))]) (rest := [.ref li]) ⟨hx, hb, hml, hown, hts⟩ (c_J6_valueOf_c l D t ad d0 tc ((1000 * a + b : Nat) : Int) (by omega)) (va_cwS 1 hts gX1_keepIfLeast_J6_valueOf_2dffe rfl rfl rfl (by decide +kernel) ⟨Nat.le_of_ble_eq_true rfl, Nat.le_of_ble_eq_true rfl⟩) ⟨fun a U g mk q => by obtain ⟨q0, qP, qK, qS0⟩ := q; exact ⟨q0, qP, va_K.moved (u := U) (U := U.calling g mk a) (Vm.Alike.refl U.vm) qK, qS0.moved (u := U) (U := U.calling g mk a) (Vm.Alike.refl U.vm)⟩, fun U hU hW => ⟨rfl, by rw [hU]; exact hPc, va_K.moved hW.alike hK, by rw [hU]; exact (((hJ.kept hS.2.1).narrow (fun q h => h.elim))).moved hW.alike⟩⟩ rfl rfl hl.1 rfl (lv_room (Nat.le_of_ble_eq_true rfl)) dX1_keepIfLeast_96 ⟨Nat.le_of_ble_eq_true rfl, Nat.le_of_ble_eq_true rfl⟩).run (fun r hr96 => ?_)
            obtain rfl := hr96
            have hPc := hP.sub (ws' := [(li, .inr (1, [.int (zI (mo)), .ref eA, .int (zI (((k : Nat) : Int)))])), aQ t 6 eA 10 (f)]) [1, 2] rfl
            have hDc := hD.sub (ws' := [(li, .inr (1, [.int (zI (mo)), .ref eA, .int (zI (((k : Nat) : Int)))])), aQ t 6 eA 10 (f)]) [1, 2] (by decide) rfl
            have hFc := va_free (wc := [(li, .inr (1, [.int (zI (mo)), .ref eA, .int (zI (((k : Nat) : Int)))])), aQ t 6 eA 10 (f)]) hD hS hA [1, 2] rfl
            refine va_calli (va_runV (As := [.ref ((ad (((1000 * a + b : Nat) : Int) + 128).toNat))]) (rest := []) ⟨hx, hb, hml, hown, hts⟩ (c_add_k l D t H.size ad d0 tc li mo (ad (((1000 * a + b : Nat) : Int) + 128).toNat) eA k f (by omega)) (cwV 1 hts gX1_keepIfLeast_Jx4a65c_add_9ea2d rfl rfl rfl (by decide +kernel) ⟨Nat.le_of_ble_eq_true rfl, Nat.le_of_ble_eq_true rfl⟩) ⟨fun a U g mk q => by obtain ⟨q0, q1, qP, qK, qD, qS0, qS1⟩ := q; exact ⟨q0, q1, qP, va_K.moved (u := U) (U := U.calling g mk a) (Vm.Alike.refl U.vm) qK, qD, qS0.moved (u := U) (U := U.calling g mk a) (Vm.Alike.refl U.vm), qS1.moved (u := U) (U := U.calling g mk a) (Vm.Alike.refl U.vm)⟩, va_recv hK hPc (ci := 1) (q0 := 0) rfl rfl, fun U hU hW => ⟨rfl, by rw [hU], by rw [hU]; exact hPc, va_K.moved hW.alike hK, hDc.weaken (fun _ _ _ _ => trivial), by rw [hU]; exact (((hJ.kept hS.2.1).narrow hFc)).moved hW.alike, by rw [hU]; exact (((hJ.1.1 _ (by omega)).kept hS.2.1).narrow hFc).moved hW.alike⟩⟩ rfl rfl hl.1 rfl (lv_room (Nat.le_of_ble_eq_true rfl)) dX1_keepIfLeast_99 ⟨Nat.le_of_ble_eq_true rfl, Nat.le_of_ble_eq_true rfl⟩) hS (fun q _ h => hFc q h) hFc (fun r u tq H1 locs ht hvm hr99 hB hz1 hk1 hS => ?_)
            obtain ⟨hP1, hK1, hD1⟩ := hB
            rw [ht] at hP1
            obtain ⟨hP, hD⟩ := va_joinQ (X := [(q, .inr (3, [.int (zI (mk)), .ref li])), (li, .inr (1, [.int (zI (mo)), .ref eA, .int (zI (((k : Nat) : Int)))])), aQ t 6 eA 10 (f)]) (cx := [(li, .inr (1, [.int (zI (mo)), .ref eA, .int (zI (((k : Nat) : Int)))])), aQ t 6 eA 10 (f)]) (pl := PT LP pv) (wr := [(q, .inr (3, [.int (zI (mk)), .ref li]))]) (w1 := [(li, .inr (1, [.int (zI (mo + 1)), .ref eA, .int (zI (((k + 1 : Nat) : Int)))])), aQ t 6 eA 10 (va_up f k (some ((ad (((1000 * a + b : Nat) : Int) + 128).toNat))))]) hP hD [1, 2] [0] rfl rfl (by decide) (by decide) hk1 hFc hP1 hD1
            generalize H1 = H at hP hS ⊢
            have hP : va_P D vwCl ([(q, .inr (3, [.int (zI (mk)), .ref li])), (li, .inr (1, [.int (zI (mo + 1)), .ref eA, .int (zI (((k + 1 : Nat) : Int)))])), aQ t 6 eA 10 (va_up f k (some ((ad (((1000 * a + b : Nat) : Int) + 128).toNat))))] ++ PT LP pv) H := hP
            have hD : va_D AA ([(q, .inr (3, [.int (zI (mk)), .ref li])), (li, .inr (1, [.int (zI (mo + 1)), .ref eA, .int (zI (((k + 1 : Nat) : Int)))])), aQ t 6 eA 10 (va_up f k (some ((ad (((1000 * a + b : Nat) : Int) + 128).toNat))))] ++ PT LP pv) := hD
            try dsimp only at hr99
            refine lv_pop hx hb dX1_keepIfLeast_102 rfl ?_
            have hP := hP.part (X := [(q, .inr (3, [.int (zI (mk)), .ref li])), (li, .inr (1, [.int (zI (mo + 1)), .ref eA, .int (zI (((k + 1 : Nat) : Int)))])), aQ t 6 eA 10 (va_up f k (some ((ad (((1000 * a + b : Nat) : Int) + 128).toNat))))]) (cx := [(q, .inr (3, [.int (zI (mk)), .ref li])), (li, .inr (1, [.int (zI (mo + 1)), .ref eA, .int (zI (((k + 1 : Nat) : Int)))])), aQ t 6 eA 10 (va_up f k (some ((ad (((1000 * a + b : Nat) : Int) + 128).toNat))))]) (pl := PT LP pv) [0, 1, 2] rfl
            have hD := hD.part (X := [(q, .inr (3, [.int (zI (mk)), .ref li])), (li, .inr (1, [.int (zI (mo + 1)), .ref eA, .int (zI (((k + 1 : Nat) : Int)))])), aQ t 6 eA 10 (va_up f k (some ((ad (((1000 * a + b : Nat) : Int) + 128).toNat))))]) (cx := [(q, .inr (3, [.int (zI (mk)), .ref li])), (li, .inr (1, [.int (zI (mo + 1)), .ref eA, .int (zI (((k + 1 : Nat) : Int)))])), aQ t 6 eA 10 (va_up f k (some ((ad (((1000 * a + b : Nat) : Int) + 128).toNat))))]) (pl := PT LP pv) [0, 1, 2] (by decide) rfl
            have hT : TT t eA (k + 1) (va_up f k (some ((ad (((1000 * a + b : Nat) : Int) + 128).toNat)))) (LP) (pv) = aQ t 6 eA 10 (va_up f k (some ((ad (((1000 * a + b : Nat) : Int) + 128).toNat)))) :: PT (LP) (pv) := TT_k t eA _ _ _ (Nat.succ_pos k)
            have hP : va_P D vwCl ([(q, .inr (3, [.int (zI (mk)), .ref li])), (li, .inr (1, [.int (zI (mo + 1)), .ref eA, .int (zI (((k + 1 : Nat) : Int)))]))] ++ TT t eA (k + 1) (va_up f k (some ((ad (((1000 * a + b : Nat) : Int) + 128).toNat)))) (LP) (pv)) H := by rw [hT]; exact hP
            have hD : va_D AA ([(q, .inr (3, [.int (zI (mk)), .ref li])), (li, .inr (1, [.int (zI (mo + 1)), .ref eA, .int (zI (((k + 1 : Nat) : Int)))]))] ++ TT t eA (k + 1) (va_up f k (some ((ad (((1000 * a + b : Nat) : Int) + 128).toNat)))) (LP) (pv)) := by rw [hT]; exact hD
            refine W.widen (k := 2) (n := 11) (by decide) (by decide) ?_
            exact W.vret hx hb hr (fun tq ht hW => ⟨⟨(eA, va_up f k (some ((ad (((1000 * a + b : Nat) : Int) + 128).toNat))), LP, pv), rfl, lsOK_app hcs hk (fun z w hz => hz) (bx_c (by omega)), by rw [ht]; exact hP, va_K.moved hW.alike hK, hD⟩, hS.F ht⟩) hS.2.2 dX1_keepIfLeast_103
      · refine lv_iconst (v := zI 0) hx hb dX1_keepIfLeast_19 rfl ?_
        refine z_re (e2 := ((0 : Nat) : Int)) (rfl) ?_
        refine lv_istore (lv' := [(6, .int (zI (((0 : Nat) : Int)))), (0, .ref q), (1, .int (zI (a))), (2, .int (zI (b))), (3, .int (zI (n))), (4, .int (zI (((1000 * a + b : Nat) : Int)))), (5, .int (zI (w)))]) hx hb dX1_keepIfLeast_20 hl (by decide) rfl (fun ls hl => ?_)
        have lp22 : ∀ (NN : Nat) (o : Nat) (r1 : o ≤ 4) (r2 : ∀ o1, o1 < o → lsP n a b w o1 = false), 4 - o < NN → ∀ (H : Heap) (locs : List Loc), va_P D vwCl ([(q, .inr (3, [.int (zI (mk)), .ref li])), (li, .inr (1, [.int (zI (mo)), .ref eA, .int (zI (((k : Nat) : Int)))]))] ++ TT t eA k f LP pv) H → va_D AA ([(q, .inr (3, [.int (zI (mk)), .ref li])), (li, .inr (1, [.int (zI (mo)), .ref eA, .int (zI (((k : Nat) : Int)))]))] ++ TT t eA k f LP pv) → va_S AA s.heap H locs → ∀ (ls : Array Slot), lv_has ls 11 [(0, .ref q), (1, .int (zI (a))), (2, .int (zI (b))), (3, .int (zI (n))), (4, .int (zI (((1000 * a + b : Nat) : Int)))), (5, .int (zI (w))), (6, .int (zI (o)))] → W p l e (headSpec wsX1_keepIfLeast ({ frames := 5, cells := 2, slots := 11, locals := 111 })).room s m ([.ref q, .int (zI (a)), .int (zI (b)), .int (zI (n))] : List Value).toArray below meth c H locs 0 0 (MQ below (va_Qv (fun (u : Nat × (Nat → Option Nat) × List Nat × (Nat → Int32)) => lsOK ad u.2.2.1 u.2.2.2 u.2.1 (cs ++ [1000 * a + b])) (fun (u : Nat × (Nat → Option Nat) × List Nat × (Nat → Int32)) t1 => va_P D vwCl (([(q, .inr (3, [.int (zI (mk)), .ref li])), (li, .inr (1, [.int (zI (mo + 1)), .ref u.1, .int (zI (((k + 1 : Nat) : Int)))]))] ++ TT t (u.1) (k + 1) (u.2.1) (u.2.2.1) (u.2.2.2))) t1.heap ∧ va_K D vwCl (TY t) t1 ∧ va_D (AA) (([(q, .inr (3, [.int (zI (mk)), .ref li])), (li, .inr (1, [.int (zI (mo + 1)), .ref u.1, .int (zI (((k + 1 : Nat) : Int)))]))] ++ TT t (u.1) (k + 1) (u.2.1) (u.2.2.1) (u.2.2.2)))) (AA)) ([.ref q, .int (zI (a)), .int (zI (b)), .int (zI (n))] : List Value).toArray s 2 11 (AA)) (F0 m 22 ls []) := by
          intro NN
          induction NN with
          | zero =>
            intro o r1 r2 hmu
            exact absurd hmu (Nat.not_lt_zero _)
          | succ NN ih22 =>
            intro o r1 r2 hmu H locs hP hD hS ls hl
            have b1 := TWw_lt n a w
            have b2 := TWw_lt n b ((w &&& 4) ||| o)
            refine lv_iload hx hb dX1_keepIfLeast_22 (lv_at hl 6 rfl) ?_
            refine lv_iconst (v := zI 4) hx hb dX1_keepIfLeast_24 rfl ?_
            refine z_icmp_ge (tgt := 84) hx hb dX1_keepIfLeast_25 (by decide) (by omega) (by omega) (fun c25 => ?_) (fun c25 => ?_)
            · refine lv_iinc (v := zI (((w + 1 : Nat) : Int))) (lv' := [(5, .int (zI (((w + 1 : Nat) : Int)))), (0, .ref q), (1, .int (zI (a))), (2, .int (zI (b))), (3, .int (zI (n))), (4, .int (zI (((1000 * a + b : Nat) : Int)))), (6, .int (zI (o)))]) hx hb dX1_keepIfLeast_84 hl (k := 5) rfl (zI_incr (by omega)) (by decide) rfl (fun ls hl => ?_)
              refine lv_goto (tgt := 12) hx hb dX1_keepIfLeast_87 (by decide) ?_
              exact ih12 (w + 1) (by omega) (fun w1 o1 h1 h2 => if e1 : w1 = w then e1 ▸ r2 o1 (by omega) else q2 w1 o1 (by omega) h2) (by omega) _ _ hP hD hS _ (lv_sub hl [1, 2, 3, 4, 5, 0] rfl)
            · refine lv_iload_n hx hb dX1_keepIfLeast_28 rfl (lv_at hl 1 rfl) ?_
              refine n_i2l (a := a) hx hb (by omega) dX1_keepIfLeast_29 ?_
              refine lv_iload_n hx hb dX1_keepIfLeast_30 rfl (lv_at hl 3 rfl) ?_
              refine lv_iload hx hb dX1_keepIfLeast_31 (lv_at hl 5 rfl) ?_
              refine vp_callSl (va_runS (As := [.long (lN (a)), .int (zI (n)), .int (zI (w))]) (rest := []) ⟨hx, hb, hml, hown, hts⟩ (c_X3_turned l a n w (by omega) ga (by omega)) (va_cwS 3 hts gX1_keepIfLeast_X3_turned rfl rfl rfl (by decide +kernel) ⟨Nat.le_of_ble_eq_true rfl, Nat.le_of_ble_eq_true rfl⟩) ⟨fun a U g mk q => q, fun U hU hW => ⟨rfl, trivial⟩⟩ rfl rfl hl.1 rfl (lv_room (Nat.le_of_ble_eq_true rfl)) dX1_keepIfLeast_33 ⟨Nat.le_of_ble_eq_true rfl, Nat.le_of_ble_eq_true rfl⟩).run (fun r hr33 => ?_)
              obtain rfl := hr33
              refine lv_lstore (lv' := [(7, .long (lN (TWw (n) (a) (w)))), (0, .ref q), (1, .int (zI (a))), (2, .int (zI (b))), (3, .int (zI (n))), (4, .int (zI (((1000 * a + b : Nat) : Int)))), (5, .int (zI (w))), (6, .int (zI (o)))]) hx hb dX1_keepIfLeast_36 hl (by decide) rfl (fun ls hl => ?_)
              refine lv_iload_n hx hb dX1_keepIfLeast_38 rfl (lv_at hl 3 rfl) ?_
              refine n_i2l (a := b) hx hb (by omega) dX1_keepIfLeast_39 ?_
              refine lv_iload_n hx hb dX1_keepIfLeast_40 rfl (lv_at hl 4 rfl) ?_
              refine lv_iload hx hb dX1_keepIfLeast_41 (lv_at hl 6 rfl) ?_
              refine lv_iconst (v := zI 4) hx hb dX1_keepIfLeast_43 rfl ?_
              refine z_re (e2 := ((4 : Nat) : Int)) (rfl) ?_
              refine n_iand hx hb (a := w) (b := 4) dX1_keepIfLeast_44 ?_
              refine lv_iload hx hb dX1_keepIfLeast_45 (lv_at hl 7 rfl) ?_
              refine n_ior hx hb (a := (w) &&& (4)) (b := o) dX1_keepIfLeast_47 ?_
              refine vp_callSl (va_runS (As := [.long (lN (b)), .int (zI (n)), .int (zI (((((w) &&& (4)) ||| (o) : Nat) : Int)))]) (rest := []) ⟨hx, hb, hml, hown, hts⟩ (c_X3_turned l b n ((w &&& 4) ||| o) (by omega) gb (ow_lt w (by omega) o (by omega))) (va_cwS 3 hts gX1_keepIfLeast_X3_turned rfl rfl rfl (by decide +kernel) ⟨Nat.le_of_ble_eq_true rfl, Nat.le_of_ble_eq_true rfl⟩) ⟨fun a U g mk q => q, fun U hU hW => ⟨rfl, trivial⟩⟩ rfl rfl hl.1 rfl (lv_room (Nat.le_of_ble_eq_true rfl)) dX1_keepIfLeast_48 ⟨Nat.le_of_ble_eq_true rfl, Nat.le_of_ble_eq_true rfl⟩).run (fun r hr48 => ?_)
              obtain rfl := hr48
              refine lv_lstore (lv' := [(9, .long (lN (TWw (n) (b) (((w) &&& (4)) ||| (o))))), (7, .long (lN (TWw (n) (a) (w)))), (0, .ref q), (1, .int (zI (a))), (2, .int (zI (b))), (3, .int (zI (n))), (4, .int (zI (((1000 * a + b : Nat) : Int)))), (5, .int (zI (w))), (6, .int (zI (o)))]) hx hb dX1_keepIfLeast_51 hl (by decide) rfl (fun ls hl => ?_)
              refine lv_lload hx hb dX1_keepIfLeast_53 (lv_at hl 1 rfl) ?_
              refine lv_lload hx hb dX1_keepIfLeast_55 (lv_at hl 0 rfl) ?_
              refine vp_callSi (va_runS (As := [.long (lN (TWw (n) (a) (w))), .long (lN (TWw (n) (b) (((w) &&& (4)) ||| (o))))]) (rest := []) ⟨hx, hb, hml, hown, hts⟩ (c_X1_codeOf l (TWw n a w) (TWw n b ((w &&& 4) ||| o)) (by omega) (by omega)) (va_cwS 2 hts gX1_keepIfLeast_X1_codeOf rfl rfl rfl (by decide +kernel) ⟨Nat.le_of_ble_eq_true rfl, Nat.le_of_ble_eq_true rfl⟩) ⟨fun a U g mk q => q, fun U hU hW => ⟨rfl, trivial⟩⟩ rfl rfl hl.1 rfl (lv_room (Nat.le_of_ble_eq_true rfl)) dX1_keepIfLeast_57 ⟨Nat.le_of_ble_eq_true rfl, Nat.le_of_ble_eq_true rfl⟩).run (fun r hr57 => ?_)
              obtain rfl := hr57
              refine lv_iload hx hb dX1_keepIfLeast_60 (lv_at hl 6 rfl) ?_
              refine z_icmp_lt (tgt := 77) hx hb dX1_keepIfLeast_62 (by decide) (by omega) (by omega) (fun c62 => ?_) (fun c62 => ?_)
              · exact absurd ((lsKab_iff.mp hls) w o (by omega) (by omega)) (by rw [lsP_1 (by omega)]; decide)
              · refine lv_lload hx hb dX1_keepIfLeast_65 (lv_at hl 0 rfl) ?_
                refine lv_lload hx hb dX1_keepIfLeast_67 (lv_at hl 1 rfl) ?_
                refine vp_callSi (va_runS (As := [.long (lN (TWw (n) (b) (((w) &&& (4)) ||| (o)))), .long (lN (TWw (n) (a) (w)))]) (rest := []) ⟨hx, hb, hml, hown, hts⟩ (c_X1_codeOf l (TWw n b ((w &&& 4) ||| o)) (TWw n a w) (by omega) (by omega)) (va_cwS 2 hts gX1_keepIfLeast_X1_codeOf rfl rfl rfl (by decide +kernel) ⟨Nat.le_of_ble_eq_true rfl, Nat.le_of_ble_eq_true rfl⟩) ⟨fun a U g mk q => q, fun U hU hW => ⟨rfl, trivial⟩⟩ rfl rfl hl.1 rfl (lv_room (Nat.le_of_ble_eq_true rfl)) dX1_keepIfLeast_69 ⟨Nat.le_of_ble_eq_true rfl, Nat.le_of_ble_eq_true rfl⟩).run (fun r hr69 => ?_)
                obtain rfl := hr69
                refine lv_iload hx hb dX1_keepIfLeast_72 (lv_at hl 6 rfl) ?_
                refine z_icmp_ge (tgt := 78) hx hb dX1_keepIfLeast_74 (by decide) (by omega) (by omega) (fun c74 => ?_) (fun c74 => ?_)
                · refine lv_iinc (v := zI (((o + 1 : Nat) : Int))) (lv' := [(6, .int (zI (((o + 1 : Nat) : Int)))), (9, .long (lN (TWw (n) (b) (((w) &&& (4)) ||| (o))))), (7, .long (lN (TWw (n) (a) (w)))), (0, .ref q), (1, .int (zI (a))), (2, .int (zI (b))), (3, .int (zI (n))), (4, .int (zI (((1000 * a + b : Nat) : Int)))), (5, .int (zI (w)))]) hx hb dX1_keepIfLeast_78 hl (k := 8) rfl (zI_incr (by omega)) (by decide) rfl (fun ls hl => ?_)
                  refine lv_goto (tgt := 22) hx hb dX1_keepIfLeast_81 (by decide) ?_
                  exact ih22 (o + 1) (by omega) (fun o1 h1 => if e1 : o1 = o then e1 ▸ lsP_0 (by omega) (by omega) else r2 o1 (by omega)) (by omega) _ _ hP hD hS _ (lv_sub hl [3, 4, 5, 6, 7, 8, 0] rfl)
                · exact absurd ((lsKab_iff.mp hls) w o (by omega) (by omega)) (by rw [lsP_2 (by omega)]; decide)
        exact lp22 _ (0) (by omega) (fun o1 h1 => absurd h1 (Nat.not_lt_zero _)) (Nat.lt_succ_self _) _ _ hP hD hS _ (lv_sub hl [1, 2, 3, 4, 5, 6, 0] rfl)
  exact lp12 _ (0) (by omega) (fun w1 o1 h1 _ => absurd h1 (Nat.not_lt_zero _)) (Nat.lt_succ_self _) _ _ hP hD hS _ (lv_sub hl [2, 3, 4, 5, 1, 0] rfl)
