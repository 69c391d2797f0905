/-! the law's loop -/
theorem and31 (v : Int32) : ∃ w : Nat, w < 32 ∧ v &&& zI 31 = zI ((w : Nat) : Int) := by
  refine ⟨v.toBitVec.toNat &&& 31, Nat.lt_of_le_of_lt Nat.and_le_right (by decide), ?_⟩
  rw [show zI (((v.toBitVec.toNat &&& 31 : Nat) : Int)) = Int32.ofNat (v.toBitVec.toNat &&& 31) from Int32.ofInt_eq_ofNat]
  apply Int32.toBitVec_inj.mp
  rw [Int32.toBitVec_and]
  apply BitVec.eq_of_toNat_eq
  rw [BitVec.toNat_and]
  show v.toBitVec.toNat &&& 31 = (v.toBitVec.toNat &&& 31) % 2^32
  rw [Nat.mod_eq_of_lt (Nat.lt_of_le_of_lt Nat.and_le_right (by decide))]
set_option maxHeartbeats 4000000 in
set_option maxRecDepth 100000 in
/-- one call of the script -/
theorem law_step {p : Program} {e : Env} {s : State} {m : MethodId} {below : List Frame} {meth : Method} {c : Code} (l : Launch) {sc L : Nat} {xs : Nat → Int32} (hx : p.tables.exec = Jvm.exec) (hb : c.code = cL_law) (hml : c.maxLocals = 4) (hown : s.vm.findClass RL = some m.cls) (hts : ∀ w ∈ wsL_law, w.before #[Value.ref sc] s = true) (hX : va_X sc L xs s s.heap) (hbl : sc < s.heap.size) {AA : Nat → Prop} (hA : ∀ q : Nat, s.heap.size ≤ q → AA q) (hbA : ¬ AA sc) {D : va_G} {t : Nat → ClassId} (hK : va_K D vwCl (TY t) s) {ad : Nat → Nat} {d0 tc : Nat} (hJ : jK ad d0 tc AA s s.heap) {x y : Nat} {a b : Nat → Nat} {j : Nat} (hj : 5 * j + 5 ≤ L) (hL : L ≤ 2560) {Q : State → Prop} (kk : ∀ (H1 : Heap) (locs1 : List Loc) (ls1 : Array Slot), LI t ad AA D s x a y b H1 locs1 → lv_has ls1 4 [(0, .ref sc), (1, .ref x), (2, .ref y), (3, .int (zI ((((5 * j : Nat)) : Int))))] → W p l e room_1 s m #[Value.ref sc] below meth c H1 locs1 (19 + 12 * (j + 1)) (9240 + 66 * (j + 1)) Q (F0 m 1032 ls1 [])) {H : Heap} {locs : List Loc} {ls : Array Slot} (hI : LI t ad AA D s x a y b H locs) (hl : lv_has ls 4 [(0, .ref sc), (1, .ref x), (2, .ref y), (3, .int (zI ((((5 * j : Nat)) : Int))))]) : W p l e room_1 s m #[Value.ref sc] below meth c H locs (19 + 12 * j) (9240 + 66 * j) Q (F0 m 26 ls []) := by
  have hS : va_S AA s.heap H locs := by obtain ⟨_, _, _, _, _, _, _, _, _, _, _, _, _, _, _, _, _, _, _, _, _, _, ⟨-, -, hS⟩, -⟩ := hI; exact hS
  refine lv_aload_n hx hb dL_law_26 rfl (lv_at hl 0 rfl) ?_
  refine lv_iload_n hx hb dL_law_27 rfl (lv_at hl 3 rfl) ?_
  refine q_sc hx hb hX hbl hbA hS (5 * j) rfl (by omega) (by omega) dL_law_28 ?_
  refine lv_bipush (v := zI 31) hx hb dL_law_29 (by decide +kernel) ?_
  obtain ⟨w, hw, ew⟩ := and31 (zI ((xs (5 * j)).toInt))
  refine lv_iand hx hb dL_law_31 ?_
  rw [ew]
  rcases (show w = 0 ∨ w = 1 ∨ w = 2 ∨ w = 3 ∨ w = 4 ∨ w = 5 ∨ w = 6 ∨ w = 7 ∨ w = 8 ∨ w = 9 ∨ w = 10 ∨ w = 11 ∨ w = 12 ∨ w = 13 ∨ w = 14 ∨ w = 15 ∨ w = 16 ∨ w = 17 ∨ w = 18 ∨ w = 19 ∨ w = 20 ∨ w = 21 ∨ w = 22 ∨ w = 23 ∨ w = 24 ∨ w = 25 ∨ 26 ≤ w by omega) with rfl | rfl | rfl | rfl | rfl | rfl | rfl | rfl | rfl | rfl | rfl | rfl | rfl | rfl | rfl | rfl | rfl | rfl | rfl | rfl | rfl | rfl | rfl | rfl | rfl | rfl | hw2
  · exact z_tableIn (off := 120) (tgt := 152) hx hb 0 dL_law_32 (by omega) (by omega) (by omega) rfl (by decide) (law_row l hx hb hml hown hts hX hbl hA hbA hK hJ hj hL kk hI hl)
  · exact z_tableIn (off := 183) (tgt := 215) hx hb 1 dL_law_32 (by omega) (by omega) (by omega) rfl (by decide) (law_sheet l hx hb hml hown hts hX hbl hA hbA hK hJ hj hL kk hI hl)
  · exact z_tableIn (off := 226) (tgt := 258) hx hb 2 dL_law_32 (by omega) (by omega) (by omega) rfl (by decide) (law_lay l hx hb hml hown hts hX hbl hA hbA hK hJ hj hL kk hI hl)
  · exact z_tableIn (off := 269) (tgt := 301) hx hb 3 dL_law_32 (by omega) (by omega) (by omega) rfl (by decide) (law_draw l hx hb hml hown hts hX hbl hA hbA hK hJ hj hL kk hI hl)
  · exact z_tableIn (off := 322) (tgt := 354) hx hb 4 dL_law_32 (by omega) (by omega) (by omega) rfl (by decide) (law_drop l hx hb hml hown hts hX hbl hA hbA hK hJ hj hL kk hI hl)
  · exact z_tableIn (off := 335) (tgt := 367) hx hb 5 dL_law_32 (by omega) (by omega) (by omega) rfl (by decide) (law_length l hx hb hml hown hts hX hbl hA hbA hK hJ hj hL kk hI hl)
  · exact z_tableIn (off := 358) (tgt := 390) hx hb 6 dL_law_32 (by omega) (by omega) (by omega) rfl (by decide) (law_place l hx hb hml hown hts hX hbl hA hbA hK hJ hj hL kk hI hl)
  · exact z_tableIn (off := 391) (tgt := 423) hx hb 7 dL_law_32 (by omega) (by omega) (by omega) rfl (by decide) (law_number l hx hb hml hown hts hX hbl hA hbA hK hJ hj hL kk hI hl)
  · exact z_tableIn (off := 415) (tgt := 447) hx hb 8 dL_law_32 (by omega) (by omega) (by omega) rfl (by decide) (law_open l hx hb hml hown hts hX hbl hA hbA hK hJ hj hL kk hI hl)
  · exact z_tableIn (off := 448) (tgt := 480) hx hb 9 dL_law_32 (by omega) (by omega) (by omega) rfl (by decide) (law_round l hx hb hml hown hts hX hbl hA hbA hK hJ hj hL kk hI hl)
  · exact z_tableIn (off := 481) (tgt := 513) hx hb 10 dL_law_32 (by omega) (by omega) (by omega) rfl (by decide) (law_about l hx hb hml hown hts hX hbl hA hbA hK hJ hj hL kk hI hl)
  · exact z_tableIn (off := 514) (tgt := 546) hx hb 11 dL_law_32 (by omega) (by omega) (by omega) rfl (by decide) (law_least l hx hb hml hown hts hX hbl hA hbA hK hJ hj hL kk hI hl)
  · exact z_tableIn (off := 538) (tgt := 570) hx hb 12 dL_law_32 (by omega) (by omega) (by omega) rfl (by decide) (law_turn l hx hb hml hown hts hX hbl hA hbA hK hJ hj hL kk hI hl)
  · exact z_tableIn (off := 571) (tgt := 603) hx hb 13 dL_law_32 (by omega) (by omega) (by omega) rfl (by decide) (law_put l hx hb hml hown hts hX hbl hA hbA hK hJ hj hL kk hI hl)
  · exact z_tableIn (off := 604) (tgt := 636) hx hb 14 dL_law_32 (by omega) (by omega) (by omega) rfl (by decide) (law_weave l hx hb hml hown hts hX hbl hA hbA hK hJ hj hL kk hI hl)
  · exact z_tableIn (off := 637) (tgt := 669) hx hb 15 dL_law_32 (by omega) (by omega) (by omega) rfl (by decide) (law_times l hx hb hml hown hts hX hbl hA hbA hK hJ hj hL kk hI hl)
  · exact z_tableIn (off := 670) (tgt := 702) hx hb 16 dL_law_32 (by omega) (by omega) (by omega) rfl (by decide) (law_cancels l hx hb hml hown hts hX hbl hA hbA hK hJ hj hL kk hI hl)
  · exact z_tableIn (off := 703) (tgt := 735) hx hb 17 dL_law_32 (by omega) (by omega) (by omega) rfl (by decide) (law_four l hx hb hml hown hts hX hbl hA hbA hK hJ hj hL kk hI hl)
  · exact z_tableIn (off := 756) (tgt := 788) hx hb 18 dL_law_32 (by omega) (by omega) (by omega) rfl (by decide) (law_doubled l hx hb hml hown hts hX hbl hA hbA hK hJ hj hL kk hI hl)
  · exact z_tableIn (off := 789) (tgt := 821) hx hb 19 dL_law_32 (by omega) (by omega) (by omega) rfl (by decide) (law_told l hx hb hml hown hts hX hbl hA hbA hK hJ hj hL kk hI hl)
  · exact z_tableIn (off := 812) (tgt := 844) hx hb 20 dL_law_32 (by omega) (by omega) (by omega) rfl (by decide) (law_why l hx hb hml hown hts hX hbl hA hbA hK hJ hj hL kk hI hl)
  · exact z_tableIn (off := 835) (tgt := 867) hx hb 21 dL_law_32 (by omega) (by omega) (by omega) rfl (by decide) (law_squares l hx hb hml hown hts hX hbl hA hbA hK hJ hj hL kk hI hl)
  · exact z_tableIn (off := 868) (tgt := 900) hx hb 22 dL_law_32 (by omega) (by omega) (by omega) rfl (by decide) (law_pairs l hx hb hml hown hts hX hbl hA hbA hK hJ hj hL kk hI hl)
  · exact z_tableIn (off := 901) (tgt := 933) hx hb 23 dL_law_32 (by omega) (by omega) (by omega) rfl (by decide) (law_pair l hx hb hml hown hts hX hbl hA hbA hK hJ hj hL kk hI hl)
  · exact z_tableIn (off := 934) (tgt := 966) hx hb 24 dL_law_32 (by omega) (by omega) (by omega) rfl (by decide) (law_best l hx hb hml hown hts hX hbl hA hbA hK hJ hj hL kk hI hl)
  · exact z_tableIn (off := 977) (tgt := 1009) hx hb 25 dL_law_32 (by omega) (by omega) (by omega) rfl (by decide) (law_count l hx hb hml hown hts hX hbl hA hbA hK hJ hj hL kk hI hl)
  · refine z_tableOut (tgt := 1032) hx hb dL_law_32 (by omega) (by omega) (by decide) ?_
    refine W.widen (k := (19 + 12 * (j + 1))) (n := (9240 + 66 * (j + 1))) (by omega) (by omega) ?_
    exact kk _ _ _ hI hl
set_option maxHeartbeats 4000000 in
set_option maxRecDepth 100000 in
/-- all calls of the script -/
theorem law_loop {p : Program} {e : Env} {s : State} {m : MethodId} {below : List Frame} {meth : Method} {c : Code} (l : Launch) {sc L : Nat} {xs : Nat → Int32} (hx : p.tables.exec = Jvm.exec) (hb : c.code = cL_law) (hml : c.maxLocals = 4) (hown : s.vm.findClass RL = some m.cls) (hts : ∀ w ∈ wsL_law, w.before #[Value.ref sc] s = true) (hX : va_X sc L xs s s.heap) (hbl : sc < s.heap.size) {AA : Nat → Prop} (hA : ∀ q : Nat, s.heap.size ≤ q → AA q) (hbA : ¬ AA sc) {D : va_G} {t : Nat → ClassId} (hK : va_K D vwCl (TY t) s) (hAA : ∀ q : Nat, AA q → s.heap.size ≤ q) {ad : Nat → Nat} {d0 tc : Nat} (hJ : jK ad d0 tc AA s s.heap) {x y : Nat} {a b : Nat → Nat} (hL : L ≤ 2560) {Q : State → Prop} (ke : ∀ (H1 : Heap) (ls1 : Array Slot), W p l e room_1 s m #[Value.ref sc] below meth c H1 [] 600000 7302250 Q (F0 m 1038 ls1 [])) : ∀ (n j : Nat), 5 * j ≤ L → L < 5 * (j + n) → ∀ (H : Heap) (locs : List Loc) (ls : Array Slot), LI t ad AA D s x a y b H locs → lv_has ls 4 [(0, .ref sc), (1, .ref x), (2, .ref y), (3, .int (zI ((((5 * j : Nat)) : Int))))] → W p l e room_1 s m #[Value.ref sc] below meth c H locs (19 + 12 * j) (9240 + 66 * j) Q (F0 m 18 ls []) := by
  intro n
  induction n with
  | zero =>
    intro j h1 h2
    exact absurd h2 (by omega)
  | succ n ih =>
    intro j hj hjn H locs ls hI hl
    have hS : va_S AA s.heap H locs := by obtain ⟨_, _, _, _, _, _, _, _, _, _, _, _, _, _, _, _, _, _, _, _, _, _, ⟨-, -, hS⟩, -⟩ := hI; exact hS
    refine lv_iload_n hx hb dL_law_18 rfl (lv_at hl 3 rfl) ?_
    refine lv_aload_n hx hb dL_law_19 rfl (lv_at hl 0 rfl) ?_
    refine q_scl hx hb hX hbl hbA hS dL_law_20 ?_
    refine lv_iconst (v := zI 5) hx hb dL_law_21 rfl ?_
    refine z_isub hx hb dL_law_22 ?_
    refine z_icmp_gt (tgt := 1038) hx hb dL_law_23 (by decide) (by omega) (by omega) (fun _ => ?_) (fun hc => ?_)
    · refine va_forget (fun q hq => hAA _ (hS.2.2 q hq)) ?_
      refine W.widen (k := 600000) (n := 7302250) (by omega) (by omega) ?_
      exact ke _ _
    · refine law_step l hx hb hml hown hts hX hbl hA hbA hK hJ (by omega) hL (fun H1 locs1 ls1 hI1 hl1 => ?_) hI hl
      refine lv_iinc (v := zI ((((5 * (j + 1) : Nat)) : Int))) (lv' := [(3, .int (zI ((((5 * (j + 1) : Nat)) : Int)))), (0, .ref sc), (1, .ref x), (2, .ref y)]) hx hb dL_law_1032 hl1 (k := 3) rfl (zI_incr (by omega)) (by decide) rfl (fun ls2 hl2 => ?_)
      refine lv_goto (tgt := 18) hx hb dL_law_1035 (by decide) ?_
      exact ih (j + 1) (by omega) (by omega) _ _ _ hI1 (lv_sub hl2 [1, 2, 3, 0] rfl)
-- both sides made
set_option maxHeartbeats 4000000 in
set_option maxRecDepth 100000 in
theorem law_begin {p : Program} {e : Env} {s : State} {m : MethodId} {below : List Frame} {meth : Method} {c : Code} (l : Launch) {sc L : Nat} {xs : Nat → Int32} (hx : p.tables.exec = Jvm.exec) (hb : c.code = cL_law) (hml : c.maxLocals = 4) (hown : s.vm.findClass RL = some m.cls) (hts : ∀ w ∈ wsL_law, w.before #[Value.ref sc] s = true) (hX : va_X sc L xs s s.heap) (hbl : sc < s.heap.size) {AA : Nat → Prop} (hA : ∀ q : Nat, s.heap.size ≤ q → AA q) (hbA : ¬ AA sc) {D : va_G} {t : Nat → ClassId} (hK : va_K D vwCl (TY t) s) (hV : jV AA s s.heap) (ad : Nat → Nat) {Q : State → Prop} (kk : ∀ (x : Nat) (a : Nat → Nat) (y : Nat) (b : Nat → Nat) (H1 : Heap) (locs1 : List Loc) (ls1 : Array Slot), LI t ad AA D s x a y b H1 locs1 → lv_has ls1 4 [(0, .ref sc), (1, .ref x), (2, .ref y), (3, .int (zI ((((5 * 0 : Nat)) : Int))))] → W p l e room_1 s m #[Value.ref sc] below meth c H1 locs1 (19 + 12 * 0) (9240 + 66 * 0) Q (F0 m 18 ls1 [])) {H : Heap} {locs : List Loc} {ls : Array Slot} (hP : va_P D vwCl [] H) (hD : va_D AA []) (hS : va_S AA s.heap H locs) (hl : lv_has ls 4 [(0, .ref sc)]) : W p l e room_1 s m #[Value.ref sc] below meth c H locs 0 0 Q (F0 m 0 ls []) := by
  have iX6 : ∀ w ∈ u_ws RX6 TX6 7, w ∈ wsL_law := inlX6
  have iX7 : ∀ w ∈ u_ws RX7 TX7 16, w ∈ wsL_law := inlX7
  refine va_new (ci := 5) (fs := [.null, .null, .null, .null, .null, .null, .int (zI (0))]) (C := RX6) (T := TX6) (N := 7) hx hb hts iX6 tyX6 tyX6_ok hown (hts (.classLink RL 7 RX6) (by decide +kernel)) (hts (.instantiable RX6 7) (by decide +kernel)) (hts (.initialized RX6) (by decide +kernel)) hK hP hD hS hA rfl (fun j hj => by rcases (show j = 0 ∨ j = 1 ∨ j = 2 ∨ j = 3 ∨ j = 4 ∨ j = 5 ∨ j = 6 by omega) with rfl | rfl | rfl | rfl | rfl | rfl | rfl <;> rfl) (Nat.le_of_ble_eq_true rfl) (Nat.le_of_ble_eq_true rfl) dL_law_0 (fun x H hP hD hS => ?_)
  have hP : va_P D vwCl [(x, .inr (5, [.null, .null, .null, .null, .null, .null, .int (zI (0))]))] H := hP
  have hD : va_D AA [(x, .inr (5, [.null, .null, .null, .null, .null, .null, .int (zI (0))]))] := hD
  refine W.widen (k := (0 + 1)) (n := (0 + 7)) (by omega) (by omega) ?_
  refine lv_dup hx hb dL_law_3 rfl ?_
  have hPc := hP.sub (ws' := [(x, .inr (5, [.null, .null, .null, .null, .null, .null, .int (zI (0))]))]) [0] rfl
  have hDc := hD.sub (ws' := [(x, .inr (5, [.null, .null, .null, .null, .null, .null, .int (zI (0))]))]) [0] (by decide) rfl
  have hFc := va_free (wc := [(x, .inr (5, [.null, .null, .null, .null, .null, .null, .int (zI (0))]))]) hD hS hA [0] rfl
  refine va_callv (va_runI (As := []) (rest := [.ref x]) ⟨hx, hb, hml, hown, hts⟩ (c_X6_init l D t H.size x) (cwI 0 hts gL_law_X6_init rfl rfl rfl (hts (.initialized RX6) (by decide +kernel)) (hts (.methodLink RL 9 yX6_init) (by decide +kernel)) (hts (.instanceMethod yX6_init) (by decide +kernel)) rfl (by decide +kernel) ⟨Nat.le_of_ble_eq_true rfl, Nat.le_of_ble_eq_true rfl⟩) ⟨fun a U g mk q => by obtain ⟨q0, q1, qP, qK, qD, qS0⟩ := q; exact ⟨q0, q1, qP, va_K.moved (u := U) (U := U.calling g mk a) (Vm.Alike.refl U.vm) qK, qD, qS0.moved (u := U) (U := U.calling g mk a) (Vm.Alike.refl U.vm)⟩, fun U hU hW => ⟨rfl, by rw [hU], by rw [hU]; exact hPc, va_K.moved hW.alike hK, hDc.weaken (fun _ _ _ _ => trivial), by rw [hU]; exact (((hV.kept hS.2.1).narrow hFc)).moved hW.alike⟩⟩ rfl rfl hl.1 rfl (lv_room (Nat.le_of_ble_eq_true rfl)) dL_law_4 ⟨by show (0 + 1) + 6 ≤ 600000; omega, by show (0 + 7) + 91 ≤ 7302250; omega⟩) hS (fun q _ h => hFc q h) hFc (fun u tq H1 locs ht hvm hr4 hB hz1 hk1 hS => ?_)
  obtain ⟨a, rfl⟩ : ∃ z, z = u := ⟨_, rfl⟩
  obtain ⟨hP1, hK1, hD1⟩ := hB
  rw [ht] at hP1
  obtain ⟨hP, hD⟩ := va_join (wr := []) (w1 := [(x, .inr (5, [.ref (a 0), .ref (a 1), .ref (a 2), .ref (a 3), .ref (a 4), .ref (a 5), .int (zI (0))])), aI t (a 0) 24 (fun _ => 0), aJ t (a 1) 24 (fun _ => 0), aQ t 3 (a 2) 4 (fun _ => none), aQ t 4 (a 3) 9 (fun _ => none), aQ t 5 (a 4) 15 (fun _ => none), aQ t 5 (a 5) 15 (fun _ => none)]) hP hD [0] [] rfl rfl (by decide) (by decide) hk1 hFc hP1 hD1
  generalize H1 = H at hP hS ⊢
  have hP : va_P D vwCl [(x, .inr (5, [.ref (a 0), .ref (a 1), .ref (a 2), .ref (a 3), .ref (a 4), .ref (a 5), .int (zI (0))])), aI t (a 0) 24 (fun _ => 0), aJ t (a 1) 24 (fun _ => 0), aQ t 3 (a 2) 4 (fun _ => none), aQ t 4 (a 3) 9 (fun _ => none), aQ t 5 (a 4) 15 (fun _ => none), aQ t 5 (a 5) 15 (fun _ => none)] H := hP
  have hD : va_D AA [(x, .inr (5, [.ref (a 0), .ref (a 1), .ref (a 2), .ref (a 3), .ref (a 4), .ref (a 5), .int (zI (0))])), aI t (a 0) 24 (fun _ => 0), aJ t (a 1) 24 (fun _ => 0), aQ t 3 (a 2) 4 (fun _ => none), aQ t 4 (a 3) 9 (fun _ => none), aQ t 5 (a 4) 15 (fun _ => none), aQ t 5 (a 5) 15 (fun _ => none)] := hD
  try dsimp only at hr4
  refine lv_astore_n (lv' := [(1, .ref x), (0, .ref sc)]) hx hb dL_law_7 rfl hl (by decide) rfl (fun ls hl => ?_)
  refine va_new (ci := 6) (fs := [.int (zI (0)), .null, .null, .null, .null, .null, .null, .int (zI (0)), .int (zI (0)), .int (zI (0)), .null, .int (zI (0)), .null, .null, .null, .null]) (C := RX7) (T := TX7) (N := 16) hx hb hts iX7 tyX7 tyX7_ok hown (hts (.classLink RL 10 RX7) (by decide +kernel)) (hts (.instantiable RX7 16) (by decide +kernel)) (hts (.initialized RX7) (by decide +kernel)) hK hP hD hS hA rfl (fun j hj => by rcases (show j = 0 ∨ j = 1 ∨ j = 2 ∨ j = 3 ∨ j = 4 ∨ j = 5 ∨ j = 6 ∨ j = 7 ∨ j = 8 ∨ j = 9 ∨ j = 10 ∨ j = 11 ∨ j = 12 ∨ j = 13 ∨ j = 14 ∨ j = 15 by omega) with rfl | rfl | rfl | rfl | rfl | rfl | rfl | rfl | rfl | rfl | rfl | rfl | rfl | rfl | rfl | rfl <;> rfl) (Nat.le_of_ble_eq_true rfl) (Nat.le_of_ble_eq_true rfl) dL_law_8 (fun y H hP hD hS => ?_)
  have hP : va_P D vwCl [(x, .inr (5, [.ref (a 0), .ref (a 1), .ref (a 2), .ref (a 3), .ref (a 4), .ref (a 5), .int (zI (0))])), aI t (a 0) 24 (fun _ => 0), aJ t (a 1) 24 (fun _ => 0), aQ t 3 (a 2) 4 (fun _ => none), aQ t 4 (a 3) 9 (fun _ => none), aQ t 5 (a 4) 15 (fun _ => none), aQ t 5 (a 5) 15 (fun _ => none), (y, .inr (6, [.int (zI (0)), .null, .null, .null, .null, .null, .null, .int (zI (0)), .int (zI (0)), .int (zI (0)), .null, .int (zI (0)), .null, .null, .null, .null]))] H := hP
  have hD : va_D AA [(x, .inr (5, [.ref (a 0), .ref (a 1), .ref (a 2), .ref (a 3), .ref (a 4), .ref (a 5), .int (zI (0))])), aI t (a 0) 24 (fun _ => 0), aJ t (a 1) 24 (fun _ => 0), aQ t 3 (a 2) 4 (fun _ => none), aQ t 4 (a 3) 9 (fun _ => none), aQ t 5 (a 4) 15 (fun _ => none), aQ t 5 (a 5) 15 (fun _ => none), (y, .inr (6, [.int (zI (0)), .null, .null, .null, .null, .null, .null, .int (zI (0)), .int (zI (0)), .int (zI (0)), .null, .int (zI (0)), .null, .null, .null, .null]))] := hD
  refine W.widen (k := (((0 + 1) + 6) + 1)) (n := (((0 + 7) + 91) + 16)) (by omega) (by omega) ?_
  refine lv_dup hx hb dL_law_11 rfl ?_
  have hPc := hP.sub (ws' := [(y, .inr (6, [.int (zI (0)), .null, .null, .null, .null, .null, .null, .int (zI (0)), .int (zI (0)), .int (zI (0)), .null, .int (zI (0)), .null, .null, .null, .null]))]) [7] rfl
  have hDc := hD.sub (ws' := [(y, .inr (6, [.int (zI (0)), .null, .null, .null, .null, .null, .null, .int (zI (0)), .int (zI (0)), .int (zI (0)), .null, .int (zI (0)), .null, .null, .null, .null]))]) [7] (by decide) rfl
  have hFc := va_free (wc := [(y, .inr (6, [.int (zI (0)), .null, .null, .null, .null, .null, .null, .int (zI (0)), .int (zI (0)), .int (zI (0)), .null, .int (zI (0)), .null, .null, .null, .null]))]) hD hS hA [7] rfl
  refine va_callv (va_runI (As := []) (rest := [.ref y]) ⟨hx, hb, hml, hown, hts⟩ (c_X7_init l D t H.size y) (cwI 0 hts gL_law_X7_init rfl rfl rfl (hts (.initialized RX7) (by decide +kernel)) (hts (.methodLink RL 12 yX7_init) (by decide +kernel)) (hts (.instanceMethod yX7_init) (by decide +kernel)) rfl (by decide +kernel) ⟨Nat.le_of_ble_eq_true rfl, Nat.le_of_ble_eq_true rfl⟩) ⟨fun a U g mk q => by obtain ⟨q0, q1, qP, qK, qD⟩ := q; exact ⟨q0, q1, qP, va_K.moved (u := U) (U := U.calling g mk a) (Vm.Alike.refl U.vm) qK, qD⟩, fun U hU hW => ⟨rfl, by rw [hU], by rw [hU]; exact hPc, va_K.moved hW.alike hK, hDc.weaken (fun _ _ _ _ => trivial)⟩⟩ rfl rfl hl.1 rfl (lv_room (Nat.le_of_ble_eq_true rfl)) dL_law_12 ⟨by show (((0 + 1) + 6) + 1) + 11 ≤ 600000; omega, by show (((0 + 7) + 91) + 16) + 9126 ≤ 7302250; omega⟩) hS (fun q _ h => hFc q h) hFc (fun u tq H1 locs ht hvm hr12 hB hz1 hk1 hS => ?_)
  obtain ⟨b, rfl⟩ : ∃ z, z = u := ⟨_, rfl⟩
  obtain ⟨hP1, hK1, hD1⟩ := hB
  rw [ht] at hP1
  obtain ⟨hP, hD⟩ := va_join (wr := [(x, .inr (5, [.ref (a 0), .ref (a 1), .ref (a 2), .ref (a 3), .ref (a 4), .ref (a 5), .int (zI (0))])), aI t (a 0) 24 (fun _ => 0), aJ t (a 1) 24 (fun _ => 0), aQ t 3 (a 2) 4 (fun _ => none), aQ t 4 (a 3) 9 (fun _ => none), aQ t 5 (a 4) 15 (fun _ => none), aQ t 5 (a 5) 15 (fun _ => none)]) (w1 := [(y, .inr (6, [.int (zI (0)), .ref (b 0), .ref (b 1), .ref (b 2), .ref (b 3), .ref (b 4), .ref (b 5), .int (zI (0)), .int (zI (-4)), .int (zI (0)), .ref (b 6), .int (zI (0)), .ref (b 7), .ref (b 8), .ref (b 9), .ref (b 10)])), aI t (b 0) 24 (fun _ => 0), aJ t (b 1) 24 (fun _ => 0), aI t (b 2) 4 (la4), aI t (b 3) 4 (fun _ => 0), aI t (b 4) 256 (fun _ => 0), aJ t (b 5) 16 (fun _ => 0), aI t (b 6) 6000 (fun _ => 0), aI t (b 7) 600 (fun _ => 0), aI t (b 8) 2048 (fun _ => 0), aZ t (b 9) 30 (fun _ => 0), aI t (b 10) 120 (fun _ => 0)]) hP hD [7] [0, 1, 2, 3, 4, 5, 6] rfl rfl (by decide) (by decide) hk1 hFc hP1 hD1
  generalize H1 = H at hP hS ⊢
  have hP : va_P D vwCl [(x, .inr (5, [.ref (a 0), .ref (a 1), .ref (a 2), .ref (a 3), .ref (a 4), .ref (a 5), .int (zI (0))])), aI t (a 0) 24 (fun _ => 0), aJ t (a 1) 24 (fun _ => 0), aQ t 3 (a 2) 4 (fun _ => none), aQ t 4 (a 3) 9 (fun _ => none), aQ t 5 (a 4) 15 (fun _ => none), aQ t 5 (a 5) 15 (fun _ => none), (y, .inr (6, [.int (zI (0)), .ref (b 0), .ref (b 1), .ref (b 2), .ref (b 3), .ref (b 4), .ref (b 5), .int (zI (0)), .int (zI (-4)), .int (zI (0)), .ref (b 6), .int (zI (0)), .ref (b 7), .ref (b 8), .ref (b 9), .ref (b 10)])), aI t (b 0) 24 (fun _ => 0), aJ t (b 1) 24 (fun _ => 0), aI t (b 2) 4 (la4), aI t (b 3) 4 (fun _ => 0), aI t (b 4) 256 (fun _ => 0), aJ t (b 5) 16 (fun _ => 0), aI t (b 6) 6000 (fun _ => 0), aI t (b 7) 600 (fun _ => 0), aI t (b 8) 2048 (fun _ => 0), aZ t (b 9) 30 (fun _ => 0), aI t (b 10) 120 (fun _ => 0)] H := hP
  have hD : va_D AA [(x, .inr (5, [.ref (a 0), .ref (a 1), .ref (a 2), .ref (a 3), .ref (a 4), .ref (a 5), .int (zI (0))])), aI t (a 0) 24 (fun _ => 0), aJ t (a 1) 24 (fun _ => 0), aQ t 3 (a 2) 4 (fun _ => none), aQ t 4 (a 3) 9 (fun _ => none), aQ t 5 (a 4) 15 (fun _ => none), aQ t 5 (a 5) 15 (fun _ => none), (y, .inr (6, [.int (zI (0)), .ref (b 0), .ref (b 1), .ref (b 2), .ref (b 3), .ref (b 4), .ref (b 5), .int (zI (0)), .int (zI (-4)), .int (zI (0)), .ref (b 6), .int (zI (0)), .ref (b 7), .ref (b 8), .ref (b 9), .ref (b 10)])), aI t (b 0) 24 (fun _ => 0), aJ t (b 1) 24 (fun _ => 0), aI t (b 2) 4 (la4), aI t (b 3) 4 (fun _ => 0), aI t (b 4) 256 (fun _ => 0), aJ t (b 5) 16 (fun _ => 0), aI t (b 6) 6000 (fun _ => 0), aI t (b 7) 600 (fun _ => 0), aI t (b 8) 2048 (fun _ => 0), aZ t (b 9) 30 (fun _ => 0), aI t (b 10) 120 (fun _ => 0)] := hD
  try dsimp only at hr12
  refine lv_astore_n (lv' := [(2, .ref y), (1, .ref x), (0, .ref sc)]) hx hb dL_law_15 rfl hl (by decide) rfl (fun ls hl => ?_)
  refine lv_iconst (v := zI 0) hx hb dL_law_16 rfl ?_
  refine lv_istore_n (lv' := [(3, .int (zI (0))), (2, .ref y), (1, .ref x), (0, .ref sc)]) hx hb dL_law_17 rfl hl (by decide) rfl (fun ls hl => ?_)
  have hT1 : sgs 4 ((segS t ((fun _ => none)) ((fun _ => 0)) la4 ((fun _ => 0)) ((fun _ => 0)))) = [] := sgs_nil (fun i => segS_n rfl)
  have hT2 : sgs 15 ((segB ((fun _ => none)) 0)) = [] := sgs_nil (fun i => segB_n rfl)
  have hT3 : sgs 15 ((segB ((fun _ => none)) 1)) = [] := sgs_nil (fun i => segB_n rfl)
  have hT4 : sgs 9 ((segP t ((fun _ => none)) ((fun _ => (0, 0, 0, fun _ => none, [], fun _ => 0))))) = [] := sgs_nil (fun i => segP_n rfl)
  have hT : (sgs 4 (segS t ((fun _ => none)) ((fun _ => 0)) la4 ((fun _ => 0)) ((fun _ => 0))) ++ (sgs 15 (segB ((fun _ => none)) 0) ++ (sgs 15 (segB ((fun _ => none)) 1) ++ sgs 9 (segP t ((fun _ => none)) ((fun _ => (0, 0, 0, fun _ => none, [], fun _ => 0))))))) = [] := by simp only [hT1, hT2, hT3, hT4, List.append_nil]
  have hP : va_P D vwCl ([oX x a (((0 : Nat) : Int)), aI t (a 0) 24 (cN ((fun _ => 0))), aJ t (a 1) 24 ((fun _ => 0)), aQ t 3 (a 2) 4 ((fun _ => none)), aQ t 4 (a 3) 9 ((fun _ => none)), aQ t 5 (a 4) 15 ((fun _ => none)), aQ t 5 (a 5) 15 ((fun _ => none)), oM y b (((0 : Nat) : Int)) (0) ((-4)) (0) (0), aI t (b 0) 24 (cN ((fun _ => 0))), aJ t (b 1) 24 ((fun _ => 0)), aI t (b 2) 4 (la4), aI t (b 3) 4 (cN ((fun _ => 0))), aI t (b 4) 256 ((fun _ => 0)), aJ t (b 5) 16 ((fun _ => 0)), aI t (b 6) 6000 ((fun _ => 0)), aI t (b 7) 600 ((fun _ => 0)), aI t (b 8) 2048 ((fun _ => 0)), aZ t (b 9) 30 ((fun _ => 0)), aI t (b 10) 120 ((fun _ => 0))] ++ (sgs 4 (segS t ((fun _ => none)) ((fun _ => 0)) la4 ((fun _ => 0)) ((fun _ => 0))) ++ (sgs 15 (segB ((fun _ => none)) 0) ++ (sgs 15 (segB ((fun _ => none)) 1) ++ sgs 9 (segP t ((fun _ => none)) ((fun _ => (0, 0, 0, fun _ => none, [], fun _ => 0)))))))) H := by rw [hT, List.append_nil]; exact hP
  have hD : va_D AA ([oX x a (((0 : Nat) : Int)), aI t (a 0) 24 (cN ((fun _ => 0))), aJ t (a 1) 24 ((fun _ => 0)), aQ t 3 (a 2) 4 ((fun _ => none)), aQ t 4 (a 3) 9 ((fun _ => none)), aQ t 5 (a 4) 15 ((fun _ => none)), aQ t 5 (a 5) 15 ((fun _ => none)), oM y b (((0 : Nat) : Int)) (0) ((-4)) (0) (0), aI t (b 0) 24 (cN ((fun _ => 0))), aJ t (b 1) 24 ((fun _ => 0)), aI t (b 2) 4 (la4), aI t (b 3) 4 (cN ((fun _ => 0))), aI t (b 4) 256 ((fun _ => 0)), aJ t (b 5) 16 ((fun _ => 0)), aI t (b 6) 6000 ((fun _ => 0)), aI t (b 7) 600 ((fun _ => 0)), aI t (b 8) 2048 ((fun _ => 0)), aZ t (b 9) 30 ((fun _ => 0)), aI t (b 10) 120 ((fun _ => 0))] ++ (sgs 4 (segS t ((fun _ => none)) ((fun _ => 0)) la4 ((fun _ => 0)) ((fun _ => 0))) ++ (sgs 15 (segB ((fun _ => none)) 0) ++ (sgs 15 (segB ((fun _ => none)) 1) ++ sgs 9 (segP t ((fun _ => none)) ((fun _ => (0, 0, 0, fun _ => none, [], fun _ => 0)))))))) := by rw [hT, List.append_nil]; exact hD
  have gS : shOK la4 (fun _ => 0) (fun _ => 0) := ⟨fun k hk => ⟨Or.inl (if_pos hk), Nat.zero_le _⟩, fun _ => ⟨by show (-2147483648 : Int) ≤ 0; decide, by show (0 : Int) < 2147483648; decide⟩⟩
  have gC : shC (fun _ => none) la4 := fun k hk => ⟨fun _ => if_pos hk, fun _ => rfl⟩
  have gL : plC ad (fun _ => none) (fun _ => ((0, 0, 0, fun _ => none, [], fun _ => 0) : PRt)) := fun n _ _ hz => absurd rfl hz
  refine W.widen (k := (19 + 12 * 0)) (n := (9240 + 66 * 0)) (by omega) (by omega) ?_
  exact kk x a y b _ _ _ ⟨0, (fun _ => 0), (fun _ => 0), (fun _ => none), (fun _ => 0), la4, (fun _ => 0), (fun _ => 0), (fun _ => none), (fun _ => (0, 0, 0, fun _ => none, [], fun _ => 0)), (fun _ => none), (fun _ => none), 0, (-4), 0, 0, (fun _ => 0), (fun _ => 0), (fun _ => 0), (fun _ => 0), (fun _ => 0), (fun _ => 0), ⟨hP, hD, hS⟩, ⟨by omega, fun i hi => absurd hi (Nat.not_lt_zero i)⟩, gS, gC, gL, Or.inl rfl, fun _ _ _ _ _ => Or.inl rfl⟩ (lv_sub hl [3, 2, 1, 0] rfl)
