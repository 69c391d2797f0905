/-! the check: rows -/
theorem zl_1 {v : Int} (h1 : 0 ≤ v) : v = ((v.toNat : Nat) : Int) := by omega
theorem ch_e {x j : Nat} (h : pm x (j + 1) = pm x j) : pc (x ^^^ (x >>> 1)) (j + 1) = pc (x ^^^ (x >>> 1)) j := by
  show pc (x ^^^ (x >>> 1)) j + (if (x ^^^ (x >>> 1)).testBit j then 1 else 0) = _
  have e : (x ^^^ (x >>> 1)).testBit j = (x.testBit j ^^ x.testBit (j + 1)) := by rw [Nat.testBit_xor, tb_shr, Nat.add_comm 1 j]
  rw [e]
  unfold pm at h
  cases h1 : x.testBit j <;> cases h2 : x.testBit (j + 1) <;> rw [h1, h2] at h <;> first | (exact absurd h (by decide)) | simp
theorem ch_n {x j : Nat} (h : ¬ pm x (j + 1) = pm x j) : pc (x ^^^ (x >>> 1)) (j + 1) = pc (x ^^^ (x >>> 1)) j + 1 := by
  show pc (x ^^^ (x >>> 1)) j + (if (x ^^^ (x >>> 1)).testBit j then 1 else 0) = _
  have e : (x ^^^ (x >>> 1)).testBit j = (x.testBit j ^^ x.testBit (j + 1)) := by rw [Nat.testBit_xor, tb_shr, Nat.add_comm 1 j]
  rw [e]
  unfold pm at h
  cases h1 : x.testBit j <;> cases h2 : x.testBit (j + 1) <;> rw [h1, h2] at h <;> first | (exact absurd rfl h) | simp
def pdF (a b lb : Nat) : Nat → Bool := fun j => a.testBit (j / lb) ^^ b.testBit (j % lb)
theorem pd_pm (a b lb j : Nat) : pm a (j / lb) * pm b (j % lb) = sg (pdF a b lb j) := by
  unfold pm pdF sg
  cases a.testBit (j / lb) <;> cases b.testBit (j % lb) <;> rfl
theorem pd_0 {a b lb i : Nat} (h : 0 ≤ sg (pdF a b lb i)) : pd a b lb i ||| 0 = pd a b lb (i + 1) := ob_0 (f := pdF a b lb) h
theorem pd_1 {a b lb i : Nat} (h : sg (pdF a b lb i) < 0) : pd a b lb i ||| (1 <<< i) = pd a b lb (i + 1) := ob_1 (f := pdF a b lb) h
def mfrom (n : Nat) : Nat := if n = 26 then 26 else if n % 10 = 0 ∧ n < 30 then 10 else 1
def mcA (q : Nat) : Nat := if q = 26 then 2534680 else if q = 10 then 172 else 0
def mcB (q : Nat) : Nat := if q = 26 then 2523879 else if q = 10 then 131 else 0
def hlf : Nat → Nat → Nat → Nat
  | 0, h, _ => h
  | f + 1, h, n => if h < n then hlf f (h * 2) n else h
theorem hlf_e {f h n : Nat} (q : ¬ h < n) : hlf f h n = h := by
  cases f with
  | zero => rfl
  | succ f => exact if_neg q
theorem hlf_s {f h n : Nat} (q : h < n) : hlf (f + 1) h n = hlf f (h * 2) n := if_pos q
theorem told_d : ∀ n, n < 33 → 1 ≤ n → ((hlf 6 (mfrom n) n = n ↔ ¬ seedN n = 0) ∧ (¬ seedN n = 0 → mfrom n = seedN n ∧ rv (mfrom n) (mcA (mfrom n)) = seedA (seedN n) ∧ rv (mfrom n) (mcB (mfrom n)) = seedB (seedN n)) ∧ (mfrom n = 26 ∨ mfrom n = 10 ∨ mfrom n = 1) ∧ n ≤ mfrom n * 2 ^ 6) := by decide +kernel
theorem tl_lt : ∀ n, n < 33 → 1 ≤ n → ¬ seedN n = 0 → (tlP n).1 < 2 ^ n ∧ (tlP n).2 < 2 ^ n := by decide +kernel
theorem hp_1 : hpb 1 = false := by decide
theorem hp_mod {left p : Nat} (hl : 1 ≤ left) (hd : left % p = 0) (h3 : p % 4 = 3) : hpb left = true := (hpb_iff hl).mpr ⟨p, Nat.dvd_of_mod_eq_zero hd, h3⟩
theorem hp_step {left p : Nat} (hl : 1 ≤ left) (hp : 2 ≤ p) (hm : left % p = 0) (hmin : ∀ d, 2 ≤ d → d < p → ¬ d ∣ left) (h3 : ¬ p % 4 = 3) : hpb left = hpb (left / p) := by
  obtain ⟨m, rfl⟩ := Nat.dvd_of_mod_eq_zero hm
  rw [Nat.mul_div_cancel_left m (by omega)]
  have hm1 : 1 ≤ m := by
    rcases Nat.eq_zero_or_pos m with q | q
    · rw [q, Nat.mul_zero] at hl; omega
    · exact q
  have key : hpb (p * m) = true ↔ hpb m = true := by
    rw [hpb_iff hl, hpb_iff hm1]
    constructor
    · rintro ⟨d, hd, h4⟩
      have hg : Nat.gcd p d ∣ p * m := Nat.dvd_trans (Nat.gcd_dvd_left p d) (Nat.dvd_mul_right p m)
      have hgp : Nat.gcd p d ≤ p := Nat.le_of_dvd (by omega) (Nat.gcd_dvd_left p d)
      have hg0 : 0 < Nat.gcd p d := Nat.gcd_pos_of_pos_left d (by omega)
      rcases (show Nat.gcd p d = 1 ∨ Nat.gcd p d = p ∨ (2 ≤ Nat.gcd p d ∧ Nat.gcd p d < p) by omega) with q | q | q
      · exact ⟨d, Nat.Coprime.dvd_of_dvd_mul_left (Nat.Coprime.symm q) hd, h4⟩
      · obtain ⟨e, rfl⟩ : p ∣ d := by rw [← q]; exact Nat.gcd_dvd_right p d
        have he : e ∣ m := Nat.dvd_of_mul_dvd_mul_left (by omega) hd
        refine ⟨e, he, ?_⟩
        have hodd : p % 2 = 1 := by
          rcases (show p % 2 = 1 ∨ p % 2 = 0 by omega) with z | z
          · exact z
          · have h2 : 2 ∣ p := Nat.dvd_of_mod_eq_zero z
            have : (p * e) % 2 = 0 := by rw [Nat.mul_mod, z, Nat.zero_mul]
            omega
        have h1 : p % 4 = 1 := by omega
        rw [Nat.mul_mod, h1, Nat.one_mul, Nat.mod_mod] at h4
        exact h4
      · exact absurd hg (hmin _ q.1 q.2)
    · rintro ⟨d, hd, h4⟩
      exact ⟨d, Nat.dvd_trans hd (Nat.dvd_mul_left m p), h4⟩
  cases h1 : hpb (p * m) <;> cases h2 : hpb m <;> simp_all
theorem min_keep {left p : Nat} (hm : left % p = 0) (h0 : 0 < p) {q : Nat} (hmin : ∀ d, 2 ≤ d → d < q → ¬ d ∣ left) : ∀ d, 2 ≤ d → d < q → ¬ d ∣ left / p := by
  intro d h1 h2 h
  exact hmin d h1 h2 (Nat.dvd_trans h (Nat.div_dvd_of_dvd (Nat.dvd_of_mod_eq_zero hm)))
theorem min_next {left p : Nat} (hn : ¬ left % p = 0) (hmin : ∀ d, 2 ≤ d → d < p → ¬ d ∣ left) : ∀ d, 2 ≤ d → d < p + 1 → ¬ d ∣ left := by
  intro d h1 h2 h
  rcases Nat.lt_succ_iff_lt_or_eq.mp h2 with q | q
  · exact hmin d h1 q h
  · subst q; exact hn (Nat.mod_eq_zero_of_dvd h)
theorem min_le {left p : Nat} (h2 : 2 ≤ left) (hmin : ∀ d, 2 ≤ d → d < p → ¬ d ∣ left) : p ≤ left := by
  rcases Nat.lt_or_ge left p with q | q
  · exact absurd (Nat.dvd_refl left) (hmin left h2 q)
  · exact q
theorem div_pos' {left p : Nat} (hl : 1 ≤ left) (h0 : 0 < p) (hm : left % p = 0) : 1 ≤ left / p := Nat.div_pos (Nat.le_of_dvd hl (Nat.dvd_of_mod_eq_zero hm)) h0
theorem div_lt' {left p : Nat} (hl : 1 ≤ left) (h0 : 2 ≤ p) : left / p < left := Nat.div_lt_self hl h0
-- the check: is
set_option maxHeartbeats 4000000 in
set_option maxRecDepth 100000 in
theorem c_X7_is (l : Launch) (D : va_G) (t : Nat → ClassId) (y : Nat) (b : Nat → Nat) (R : Nat) (fm kn pm0 lm : Int) (gR : R ≤ 24) (i : Int) (gi : -2147483648 ≤ i ∧ i < 2147483648) : Met l yX7_is wsX7_is ({ frames := 1, cells := 0, slots := 0, locals := 25 }) (va_Pc [.ref y, .int (zI (i))] (fun U => va_P D vwCl ([oM y b (((R : Nat) : Int)) (fm) (kn) (pm0) (lm)]) U.heap ∧ va_K D vwCl (TY t) U)) (vp_Si (fun r => r = zI (bP (inR R i)))) 0 0 (fun _ => False) := by
  refine Met.ofW (cc := cX7_is) (maxL := 2) (ret := (some .boolean)) (by decide) rfl ?_
  intro p e s m args below meth c s₁ B hml hv
  obtain ⟨rfl, hP, hK⟩ := hv
  have hx := B.exec
  have hb := B.bytes
  have hr := B.returns
  have hts := atoms_spec (ws := wsX7_is) B.pre
  have hown : s.vm.findClass RX7 = some m.cls := findClass_of_methodNamed B.named
  have hlocks := B.notSynchronized
  have hl := lv_entry ([.ref y, .int (zI (i))]) (n := 2) (Nat.le_of_ble_eq_true rfl)
  rw [lg_entry_eq]
  generalize (lg_sl ([.ref y, .int (zI (i))]) ++ List.replicate (2 - (lg_sl ([.ref y, .int (zI (i))])).length) Slot.unset).toArray = ls at hl ⊢
  have hl : lv_has ls 2 [(0, .ref y), (1, .int (zI (i)))] := hl
  have iX7 : ∀ w ∈ u_ws RX7 TX7 16, w ∈ wsX7_is := by decide +kernel
  refine lv_iload_n hx hb dX7_is_0 rfl (lv_at hl 1 rfl) ?_
  refine z_i2l hx hb (by omega) dX7_is_1 ?_
  refine lv_lconst (v := lN 0) hx hb dX7_is_2 rfl ?_
  refine lv_aload_n hx hb dX7_is_3 rfl (lv_at hl 0 rfl) ?_
  refine va_get (D := D) (ci := 6) (v := .int (zI (((R : Nat) : Int)))) (C := RX7) (T := TX7) (N := 16) hx hb hts iX7 hown hK hP 0 rfl rfl 0 (by decide) (hts (.fieldLink RX7 49 "CancelRowsModel" "many" "I") (by decide +kernel)) (fun _ h9 => h9) rfl dX7_is_4 ?_
  refine lv_iconst (v := zI 1) hx hb dX7_is_7 rfl ?_
  refine z_isub hx hb dX7_is_8 ?_
  refine z_i2l hx hb (by omega) dX7_is_9 ?_
  refine vp_callSi (va_runS (As := [.long (zL (i)), .long (lN (0)), .long (zL ((((R : Nat) : Int)) - (1)))]) (rest := []) ⟨hx, hb, hml, hown, hts⟩ (c_X7_in l _ _ _) (va_cwS 3 hts gX7_is_X7_in rfl rfl rfl (by decide +kernel) ⟨Nat.le_of_ble_eq_true rfl, Nat.le_of_ble_eq_true rfl⟩) ⟨fun a U g mk q => q, fun U hU hW => ⟨rfl, trivial⟩⟩ rfl rfl hl.1 rfl (lv_room (Nat.le_of_ble_eq_true rfl)) dX7_is_10 ⟨Nat.le_of_ble_eq_true rfl, Nat.le_of_ble_eq_true rfl⟩).run (fun r hr10 => ?_)
  have hq10 : r = zI (bP (((0 : Nat) : Int) ≤ i ∧ i ≤ (((R : Nat) : Int)) - (1))) := by rw [hr10]; exact congrArg zI (bP_cg (by simp only [zL_toInt (e := i) (by omega), lN_toI (n := 0) (by omega), zL_toInt (e := (((R : Nat) : Int)) - (1)) (by omega)]))
  obtain rfl := hq10
  exact W.zret (v := (zI (bP (((0 : Nat) : Int) ≤ i ∧ i ≤ (((R : Nat) : Int)) - (1))))) hx hb hr (nar_b _ (by first | exact Or.inl rfl | exact Or.inr rfl | exact bP_or _)) (fun tq ht hW => ⟨_, rfl, congrArg zI (bP_cg (by constructor <;> (intro z; obtain ⟨z1, z2⟩ := z; constructor <;> omega))), ht⟩) (fun q h => by cases h) dX7_is_13

-- the check: areLike
set_option maxHeartbeats 4000000 in
set_option maxRecDepth 100000 in
theorem c_X7_areLike (l : Launch) (D : va_G) (t : Nat → ClassId) (y : Nat) (b : Nat → Nat) (R : Nat) (fm kn pm0 lm : Int) (F G : Nat → Nat) (gV : RV R F G) (i j : Int) (gi : -2147483648 ≤ i ∧ i < 2147483648) (gj : -2147483648 ≤ j ∧ j < 2147483648) : Met l yX7_areLike wsX7_areLike ({ frames := 2, cells := 0, slots := 0, locals := 46 }) (va_Pc [.ref y, .int (zI (i)), .int (zI (j))] (fun U => va_P D vwCl ([oM y b (((R : Nat) : Int)) (fm) (kn) (pm0) (lm), aI t (b 0) 24 (cN F)]) U.heap ∧ va_K D vwCl (TY t) U)) (vp_Si (fun r => r = zI (bP (inR R i ∧ inR R j ∧ F i.toNat = F j.toNat)))) 0 0 (fun _ => False) := by
  refine Met.ofW (cc := cX7_areLike) (maxL := 3) (ret := (some .boolean)) (by decide) rfl ?_
  intro p e s m args below meth c s₁ B hml hv
  obtain ⟨rfl, hP, hK⟩ := hv
  have hx := B.exec
  have hb := B.bytes
  have hr := B.returns
  have hts := atoms_spec (ws := wsX7_areLike) B.pre
  have hown : s.vm.findClass RX7 = some m.cls := findClass_of_methodNamed B.named
  have hlocks := B.notSynchronized
  have hl := lv_entry ([.ref y, .int (zI (i)), .int (zI (j))]) (n := 3) (Nat.le_of_ble_eq_true rfl)
  rw [lg_entry_eq]
  generalize (lg_sl ([.ref y, .int (zI (i)), .int (zI (j))]) ++ List.replicate (3 - (lg_sl ([.ref y, .int (zI (i)), .int (zI (j))])).length) Slot.unset).toArray = ls at hl ⊢
  have hl : lv_has ls 3 [(0, .ref y), (1, .int (zI (i))), (2, .int (zI (j)))] := hl
  have iX7 : ∀ w ∈ u_ws RX7 TX7 16, w ∈ wsX7_areLike := by decide +kernel
  have gR := gV.1
  refine lv_aload_n hx hb dX7_areLike_0 rfl (lv_at hl 0 rfl) ?_
  refine lv_iload_n hx hb dX7_areLike_1 rfl (lv_at hl 1 rfl) ?_
  have hPc := hP.sub (ws' := [oM y b (((R : Nat) : Int)) (fm) (kn) (pm0) (lm)]) [0] rfl
  refine vp_callSi (va_runV (As := [.int (zI (i))]) (rest := []) ⟨hx, hb, hml, hown, hts⟩ (c_X7_is l D t y b R fm kn pm0 lm gV.1 i gi) (cwV 1 hts gX7_areLike_X7_is rfl rfl rfl (by decide +kernel) ⟨Nat.le_of_ble_eq_true rfl, Nat.le_of_ble_eq_true rfl⟩) ⟨fun a U g mk q => ⟨q.1, q.2.1, va_K.moved (u := U) (U := U.calling g mk a) (Vm.Alike.refl U.vm) q.2.2⟩, va_recv hK hPc (ci := 6) (q0 := 0) rfl rfl, fun U hU hW => ⟨rfl, by rw [hU]; exact hPc, va_K.moved hW.alike hK⟩⟩ rfl rfl hl.1 rfl (lv_room (Nat.le_of_ble_eq_true rfl)) dX7_areLike_2 ⟨Nat.le_of_ble_eq_true rfl, Nat.le_of_ble_eq_true rfl⟩).run (fun r hr2 => ?_)
  obtain rfl := hr2
  refine z_ifb_eq (P := inR R (i)) (tgt := 35) hx hb dX7_areLike_5 (by decide) (fun c5 => ?_) (fun c5 => ?_)
  · refine lv_iconst (v := zI 0) hx hb dX7_areLike_35 rfl ?_
    exact W.zret (v := (zI (0))) hx hb hr (nar_b _ (by first | exact Or.inl rfl | exact Or.inr rfl | exact bP_or _)) (fun tq ht hW => ⟨_, rfl, by rw [bP_0 (fun z => c5 z.1)], ht⟩) (fun q h => by cases h) dX7_areLike_36
  · refine lv_aload_n hx hb dX7_areLike_8 rfl (lv_at hl 0 rfl) ?_
    refine lv_iload_n hx hb dX7_areLike_9 rfl (lv_at hl 2 rfl) ?_
    have hPc := hP.sub (ws' := [oM y b (((R : Nat) : Int)) (fm) (kn) (pm0) (lm)]) [0] rfl
    refine vp_callSi (va_runV (As := [.int (zI (j))]) (rest := []) ⟨hx, hb, hml, hown, hts⟩ (c_X7_is l D t y b R fm kn pm0 lm gV.1 j gj) (cwV 1 hts gX7_areLike_X7_is rfl rfl rfl (by decide +kernel) ⟨Nat.le_of_ble_eq_true rfl, Nat.le_of_ble_eq_true rfl⟩) ⟨fun a U g mk q => ⟨q.1, q.2.1, va_K.moved (u := U) (U := U.calling g mk a) (Vm.Alike.refl U.vm) q.2.2⟩, va_recv hK hPc (ci := 6) (q0 := 0) rfl rfl, fun U hU hW => ⟨rfl, by rw [hU]; exact hPc, va_K.moved hW.alike hK⟩⟩ rfl rfl hl.1 rfl (lv_room (Nat.le_of_ble_eq_true rfl)) dX7_areLike_10 ⟨Nat.le_of_ble_eq_true rfl, Nat.le_of_ble_eq_true rfl⟩).run (fun r hr10 => ?_)
    obtain rfl := hr10
    refine z_ifb_eq (P := inR R (j)) (tgt := 35) hx hb dX7_areLike_13 (by decide) (fun c13 => ?_) (fun c13 => ?_)
    · refine lv_iconst (v := zI 0) hx hb dX7_areLike_35 rfl ?_
      exact W.zret (v := (zI (0))) hx hb hr (nar_b _ (by first | exact Or.inl rfl | exact Or.inr rfl | exact bP_or _)) (fun tq ht hW => ⟨_, rfl, by rw [bP_0 (fun z => c13 z.2.1)], ht⟩) (fun q h => by cases h) dX7_areLike_36
    · have h1 := RV_at gV c5
      have h2 := RV_at gV c13
      refine lv_aload_n hx hb dX7_areLike_16 rfl (lv_at hl 0 rfl) ?_
      refine va_get (D := D) (ci := 6) (v := .ref (b 0)) (C := RX7) (T := TX7) (N := 16) hx hb hts iX7 hown hK hP 0 rfl rfl 1 (by decide) (hts (.fieldLink RX7 7 "CancelRowsModel" "lengths" "[I") (by decide +kernel)) (fun _ h9 => h9) rfl dX7_areLike_17 ?_
      refine lv_iload_n hx hb dX7_areLike_20 rfl (lv_at hl 1 rfl) ?_
      refine z_iald hx hb hK hP 1 0 rfl rfl (i.toNat) (by omega) (by omega) (by omega) dX7_areLike_21 ?_
      refine z_re (e2 := ((F (i.toNat) : Nat) : Int)) (rfl) ?_
      refine lv_aload_n hx hb dX7_areLike_22 rfl (lv_at hl 0 rfl) ?_
      refine va_get (D := D) (ci := 6) (v := .ref (b 0)) (C := RX7) (T := TX7) (N := 16) hx hb hts iX7 hown hK hP 0 rfl rfl 1 (by decide) (hts (.fieldLink RX7 7 "CancelRowsModel" "lengths" "[I") (by decide +kernel)) (fun _ h9 => h9) rfl dX7_areLike_23 ?_
      refine lv_iload_n hx hb dX7_areLike_26 rfl (lv_at hl 2 rfl) ?_
      refine z_iald hx hb hK hP 1 0 rfl rfl (j.toNat) (by omega) (by omega) (by omega) dX7_areLike_27 ?_
      refine z_re (e2 := ((F (j.toNat) : Nat) : Int)) (rfl) ?_
      refine z_icmp_ne (tgt := 35) hx hb dX7_areLike_28 (by decide) (by omega) (by omega) (fun c28 => ?_) (fun c28 => ?_)
      · refine lv_iconst (v := zI 0) hx hb dX7_areLike_35 rfl ?_
        exact W.zret (v := (zI (0))) hx hb hr (nar_b _ (by first | exact Or.inl rfl | exact Or.inr rfl | exact bP_or _)) (fun tq ht hW => ⟨_, rfl, by rw [bP_0 (fun z => c28 (by rw [z.2.2]))], ht⟩) (fun q h => by cases h) dX7_areLike_36
      · refine lv_iconst (v := zI 1) hx hb dX7_areLike_31 rfl ?_
        refine lv_goto (tgt := 36) hx hb dX7_areLike_32 (by decide) ?_
        exact W.zret (v := (zI (1))) hx hb hr (nar_b _ (by first | exact Or.inl rfl | exact Or.inr rfl | exact bP_or _)) (fun tq ht hW => ⟨_, rfl, by rw [bP_1 ⟨c5, c13, Int.ofNat.inj c28⟩], ht⟩) (fun q h => by cases h) dX7_areLike_36

-- the check: added
set_option maxHeartbeats 4000000 in
set_option maxRecDepth 100000 in
theorem c_X7_added (l : Launch) (D : va_G) (t : Nat → ClassId) (sz : Nat) (y : Nat) (b : Nat → Nat) (R : Nat) (fm kn pm0 lm : Int) (F G : Nat → Nat) (gR : R < 24) (n v : Nat) (gn : n ≤ 32) : Met l yX7_added wsX7_added ({ frames := 0, cells := 0, slots := 0, locals := 0 }) (va_Pc [.ref y, .int (zI (n)), .long (lN (v))] (fun U => U.heap.size = sz ∧ va_P D vwCl ([oM y b (((R : Nat) : Int)) (fm) (kn) (pm0) (lm), aI t (b 0) 24 (cN F), aJ t (b 1) 24 (G)]) U.heap ∧ va_K D vwCl (TY t) U ∧ va_D (fun _ => True) ([oM y b (((R : Nat) : Int)) (fm) (kn) (pm0) (lm), aI t (b 0) 24 (cN F), aJ t (b 1) 24 (G)]))) (va_Qi (fun r (u : RT) => r = zI (R : Int) ∧ u = (R + 1, va_up F R n, va_up G R v)) (fun (u : RT) t1 => va_P D vwCl ([oM y b (((u.1 : Nat) : Int)) (fm) (kn) (pm0) (lm), aI t (b 0) 24 (cN (u.2.1)), aJ t (b 1) 24 (u.2.2)]) t1.heap ∧ va_K D vwCl (TY t) t1 ∧ va_D (va_A ([oM y b (((R : Nat) : Int)) (fm) (kn) (pm0) (lm), aI t (b 0) 24 (cN F), aJ t (b 1) 24 (G)]) sz) ([oM y b (((u.1 : Nat) : Int)) (fm) (kn) (pm0) (lm), aI t (b 0) 24 (cN (u.2.1)), aJ t (b 1) 24 (u.2.2)])) (va_A ([oM y b (((R : Nat) : Int)) (fm) (kn) (pm0) (lm), aI t (b 0) 24 (cN F), aJ t (b 1) 24 (G)]) sz)) 0 0 (va_A ([oM y b (((R : Nat) : Int)) (fm) (kn) (pm0) (lm), aI t (b 0) 24 (cN F), aJ t (b 1) 24 (G)]) sz) := by
  refine Met.ofW (cc := cX7_added) (maxL := 4) (ret := (some .int)) (by decide) rfl ?_
  intro p e s m args below meth c s₁ B hml hv
  obtain ⟨rfl, hsz, hP, hK, hD0⟩ := hv
  have hx := B.exec
  have hb := B.bytes
  have hr := B.returns
  have hts := atoms_spec (ws := wsX7_added) B.pre
  have hown : s.vm.findClass RX7 = some m.cls := findClass_of_methodNamed B.named
  have hlocks := B.notSynchronized
  subst hsz
  have hD := hD0.self (sz := s.heap.size)
  generalize hAe : va_A ([oM y b (((R : Nat) : Int)) (fm) (kn) (pm0) (lm), aI t (b 0) 24 (cN F), aJ t (b 1) 24 (G)]) s.heap.size = AA at hD ⊢
  have hA : ∀ q : Nat, s.heap.size ≤ q → AA q := fun q h => by rw [← hAe]; exact Or.inr h
  have hS : va_S AA s.heap s.heap [] := va_S.rf
  have hP : va_P D vwCl ([oM y b (((R : Nat) : Int)) (fm) (kn) (pm0) (lm), aI t (b 0) 24 (cN F), aJ t (b 1) 24 (G)]) s.heap := hP
  have hl := lv_entry ([.ref y, .int (zI (n)), .long (lN (v))]) (n := 4) (Nat.le_of_ble_eq_true rfl)
  rw [lg_entry_eq]
  generalize (lg_sl ([.ref y, .int (zI (n)), .long (lN (v))]) ++ List.replicate (4 - (lg_sl ([.ref y, .int (zI (n)), .long (lN (v))])).length) Slot.unset).toArray = ls at hl ⊢
  have hl : lv_has ls 4 [(0, .ref y), (1, .int (zI (n))), (2, .long (lN (v)))] := hl
  have iX7 : ∀ w ∈ u_ws RX7 TX7 16, w ∈ wsX7_added := by decide +kernel
  refine lv_aload_n hx hb dX7_added_0 rfl (lv_at hl 0 rfl) ?_
  refine va_get (D := D) (ci := 6) (v := .ref (b 0)) (C := RX7) (T := TX7) (N := 16) hx hb hts iX7 hown hK hP 0 rfl rfl 1 (by decide) (hts (.fieldLink RX7 7 "CancelRowsModel" "lengths" "[I") (by decide +kernel)) (fun _ h9 => h9) rfl dX7_added_1 ?_
  refine lv_aload_n hx hb dX7_added_4 rfl (lv_at hl 0 rfl) ?_
  refine va_get (D := D) (ci := 6) (v := .int (zI (((R : Nat) : Int)))) (C := RX7) (T := TX7) (N := 16) hx hb hts iX7 hown hK hP 0 rfl rfl 0 (by decide) (hts (.fieldLink RX7 49 "CancelRowsModel" "many" "I") (by decide +kernel)) (fun _ h9 => h9) rfl dX7_added_5 ?_
  refine lv_iload_n hx hb dX7_added_8 rfl (lv_at hl 1 rfl) ?_
  refine z_iast hx hb hK hP hD hS 1 0 rfl rfl (R) (by omega) (by omega) (by omega) dX7_added_9 (fun H locs hP hD hS => ?_)
  have hP : va_P D vwCl [oM y b (((R : Nat) : Int)) (fm) (kn) (pm0) (lm), aI t (b 0) 24 (va_up (cN F) (R) (((n) : Nat) : Int)), aJ t (b 1) 24 (G)] H := hP
  have hD : va_D AA [oM y b (((R : Nat) : Int)) (fm) (kn) (pm0) (lm), aI t (b 0) 24 (va_up (cN F) (R) (((n) : Nat) : Int)), aJ t (b 1) 24 (G)] := hD
  rw [cN_up] at hP hD
  refine lv_aload_n hx hb dX7_added_10 rfl (lv_at hl 0 rfl) ?_
  refine va_get (D := D) (ci := 6) (v := .ref (b 1)) (C := RX7) (T := TX7) (N := 16) hx hb hts iX7 hown hK hP 0 rfl rfl 2 (by decide) (hts (.fieldLink RX7 13 "CancelRowsModel" "numbers" "[J") (by decide +kernel)) (fun _ h9 => h9) rfl dX7_added_11 ?_
  refine lv_aload_n hx hb dX7_added_14 rfl (lv_at hl 0 rfl) ?_
  refine va_get (D := D) (ci := 6) (v := .int (zI (((R : Nat) : Int)))) (C := RX7) (T := TX7) (N := 16) hx hb hts iX7 hown hK hP 0 rfl rfl 0 (by decide) (hts (.fieldLink RX7 49 "CancelRowsModel" "many" "I") (by decide +kernel)) (fun _ h9 => h9) rfl dX7_added_15 ?_
  refine lv_lload_n hx hb dX7_added_18 rfl (lv_at hl 2 rfl) ?_
  refine l_last hx hb hK hP hD hS 2 1 rfl rfl (R) (by omega) (by omega) (by omega) dX7_added_19 (fun H locs hP hD hS => ?_)
  have hP : va_P D vwCl [oM y b (((R : Nat) : Int)) (fm) (kn) (pm0) (lm), aI t (b 0) 24 (cN (va_up (F) (R) (n))), aJ t (b 1) 24 (va_up (G) (R) (v))] H := hP
  have hD : va_D AA [oM y b (((R : Nat) : Int)) (fm) (kn) (pm0) (lm), aI t (b 0) 24 (cN (va_up (F) (R) (n))), aJ t (b 1) 24 (va_up (G) (R) (v))] := hD
  refine lv_aload_n hx hb dX7_added_20 rfl (lv_at hl 0 rfl) ?_
  refine lv_dup hx hb dX7_added_21 rfl ?_
  refine va_get (D := D) (ci := 6) (v := .int (zI (((R : Nat) : Int)))) (C := RX7) (T := TX7) (N := 16) hx hb hts iX7 hown hK hP 0 rfl rfl 0 (by decide) (hts (.fieldLink RX7 49 "CancelRowsModel" "many" "I") (by decide +kernel)) (fun _ h9 => h9) rfl dX7_added_22 ?_
  refine lv_iconst (v := zI 1) hx hb dX7_added_25 rfl ?_
  refine z_iadd hx hb dX7_added_26 ?_
  refine z_re (e2 := ((R + 1 : Nat) : Int)) (by omega) ?_
  refine va_put (D := D) (ci := 6) (v := .int (zI (((R + 1 : Nat) : Int)))) (ty := .int) (C := RX7) (T := TX7) (N := 16) hx hb hts iX7 tyX7 tyX7_ok nmX7 hown hK hP hD hS 0 rfl rfl 0 (by decide) (hts (.fieldLink RX7 49 "CancelRowsModel" "many" "I") (by decide +kernel)) (fun _ h9 => h9) rfl (by decide +kernel) rfl rfl (Nat.le_of_ble_eq_true rfl) dX7_added_27 (fun H locs hP hD hS => ?_)
  have hP : va_P D vwCl [oM y b (((R + 1 : Nat) : Int)) (fm) (kn) (pm0) (lm), aI t (b 0) 24 (cN (va_up (F) (R) (n))), aJ t (b 1) 24 (va_up (G) (R) (v))] H := hP
  have hD : va_D AA [oM y b (((R + 1 : Nat) : Int)) (fm) (kn) (pm0) (lm), aI t (b 0) 24 (cN (va_up (F) (R) (n))), aJ t (b 1) 24 (va_up (G) (R) (v))] := hD
  refine lv_aload_n hx hb dX7_added_30 rfl (lv_at hl 0 rfl) ?_
  refine va_get (D := D) (ci := 6) (v := .int (zI (((R + 1 : Nat) : Int)))) (C := RX7) (T := TX7) (N := 16) hx hb hts iX7 hown hK hP 0 rfl rfl 0 (by decide) (hts (.fieldLink RX7 49 "CancelRowsModel" "many" "I") (by decide +kernel)) (fun _ h9 => h9) rfl dX7_added_31 ?_
  refine lv_iconst (v := zI 1) hx hb dX7_added_34 rfl ?_
  refine z_isub hx hb dX7_added_35 ?_
  have hP := hP.sub (ws' := [oM y b (((R + 1 : Nat) : Int)) (fm) (kn) (pm0) (lm), aI t (b 0) 24 (cN (va_up F R n)), aJ t (b 1) 24 (va_up G R v)]) [0, 1, 2] rfl
  have hD := hD.sub (ws' := [oM y b (((R + 1 : Nat) : Int)) (fm) (kn) (pm0) (lm), aI t (b 0) 24 (cN (va_up F R n)), aJ t (b 1) 24 (va_up G R v)]) [0, 1, 2] (by decide) rfl
  exact W.iret (v := (zI ((((R + 1 : Nat) : Int)) - (1)))) hx hb hr (fun tq ht hW => ⟨⟨_, (R + 1, va_up F R n, va_up G R v), rfl, ⟨by congr 1; omega, rfl⟩, by rw [ht]; exact hP, va_K.moved hW.alike hK, hD⟩, hS.F ht⟩) hS.2.2 dX7_added_36

-- the check: row
set_option maxHeartbeats 4000000 in
set_option maxRecDepth 100000 in
theorem c_X7_row (l : Launch) (D : va_G) (t : Nat → ClassId) (sz : Nat) (y : Nat) (b : Nat → Nat) (R : Nat) (fm kn pm0 lm : Int) (F G : Nat → Nat) (gV : RV R F G) (n v : Int) (gn : -2147483648 ≤ n ∧ n < 2147483648) (gv : -9223372036854775808 ≤ v ∧ v < 9223372036854775808) : Met l yX7_row wsX7_row ({ frames := 1, cells := 0, slots := 0, locals := 25 }) (va_Pc [.ref y, .int (zI (n)), .long (zL (v))] (fun U => U.heap.size = sz ∧ va_P D vwCl ([oM y b (((R : Nat) : Int)) (fm) (kn) (pm0) (lm), aI t (b 0) 24 (cN F), aJ t (b 1) 24 (G)]) U.heap ∧ va_K D vwCl (TY t) U ∧ va_D (fun _ => True) ([oM y b (((R : Nat) : Int)) (fm) (kn) (pm0) (lm), aI t (b 0) 24 (cN F), aJ t (b 1) 24 (G)]))) (va_Qi (fun r (u : RT) => r = zI (sp_row R F G n v).1 ∧ u = (sp_row R F G n v).2) (fun (u : RT) t1 => va_P D vwCl ([oM y b (((u.1 : Nat) : Int)) (fm) (kn) (pm0) (lm), aI t (b 0) 24 (cN (u.2.1)), aJ t (b 1) 24 (u.2.2)]) t1.heap ∧ va_K D vwCl (TY t) t1 ∧ va_D (va_A ([oM y b (((R : Nat) : Int)) (fm) (kn) (pm0) (lm), aI t (b 0) 24 (cN F), aJ t (b 1) 24 (G)]) sz) ([oM y b (((u.1 : Nat) : Int)) (fm) (kn) (pm0) (lm), aI t (b 0) 24 (cN (u.2.1)), aJ t (b 1) 24 (u.2.2)])) (va_A ([oM y b (((R : Nat) : Int)) (fm) (kn) (pm0) (lm), aI t (b 0) 24 (cN F), aJ t (b 1) 24 (G)]) sz)) 0 0 (va_A ([oM y b (((R : Nat) : Int)) (fm) (kn) (pm0) (lm), aI t (b 0) 24 (cN F), aJ t (b 1) 24 (G)]) sz) := by
  refine Met.ofW (cc := cX7_row) (maxL := 4) (ret := (some .int)) (by decide) rfl ?_
  intro p e s m args below meth c s₁ B hml hv
  obtain ⟨rfl, hsz, hP, hK, hD0⟩ := hv
  have hx := B.exec
  have hb := B.bytes
  have hr := B.returns
  have hts := atoms_spec (ws := wsX7_row) B.pre
  have hown : s.vm.findClass RX7 = some m.cls := findClass_of_methodNamed B.named
  have hlocks := B.notSynchronized
  subst hsz
  have hD := hD0.self (sz := s.heap.size)
  generalize hAe : va_A ([oM y b (((R : Nat) : Int)) (fm) (kn) (pm0) (lm), aI t (b 0) 24 (cN F), aJ t (b 1) 24 (G)]) s.heap.size = AA at hD ⊢
  have hA : ∀ q : Nat, s.heap.size ≤ q → AA q := fun q h => by rw [← hAe]; exact Or.inr h
  have hS : va_S AA s.heap s.heap [] := va_S.rf
  have hP : va_P D vwCl ([oM y b (((R : Nat) : Int)) (fm) (kn) (pm0) (lm), aI t (b 0) 24 (cN F), aJ t (b 1) 24 (G)]) s.heap := hP
  have hl := lv_entry ([.ref y, .int (zI (n)), .long (zL (v))]) (n := 4) (Nat.le_of_ble_eq_true rfl)
  rw [lg_entry_eq]
  generalize (lg_sl ([.ref y, .int (zI (n)), .long (zL (v))]) ++ List.replicate (4 - (lg_sl ([.ref y, .int (zI (n)), .long (zL (v))])).length) Slot.unset).toArray = ls at hl ⊢
  have hl : lv_has ls 4 [(0, .ref y), (1, .int (zI (n))), (2, .long (zL (v)))] := hl
  have iX7 : ∀ w ∈ u_ws RX7 TX7 16, w ∈ wsX7_row := by decide +kernel
  have gR := gV.1
  refine lv_iload_n hx hb dX7_row_0 rfl (lv_at hl 1 rfl) ?_
  refine z_i2l hx hb (by omega) dX7_row_1 ?_
  refine lv_lconst (v := lN 1) hx hb dX7_row_2 rfl ?_
  refine lv_ldc2 (v := lN 32) hx hb hown (hts (.constantLong RX7 56 (lN 32)) (by decide +kernel)) dX7_row_3 ?_
  refine vp_callSi (va_runS (As := [.long (zL (n)), .long (lN (1)), .long (lN (32))]) (rest := []) ⟨hx, hb, hml, hown, hts⟩ (c_X7_in l _ _ _) (va_cwS 3 hts gX7_row_X7_in rfl rfl rfl (by decide +kernel) ⟨Nat.le_of_ble_eq_true rfl, Nat.le_of_ble_eq_true rfl⟩) ⟨fun a U g mk q => q, fun U hU hW => ⟨rfl, trivial⟩⟩ rfl rfl hl.1 rfl (lv_room (Nat.le_of_ble_eq_true rfl)) dX7_row_6 ⟨Nat.le_of_ble_eq_true rfl, Nat.le_of_ble_eq_true rfl⟩).run (fun r hr6 => ?_)
  have hq6 : r = zI (bP (((1 : Nat) : Int) ≤ n ∧ n ≤ ((32 : Nat) : Int))) := by rw [hr6]; exact congrArg zI (bP_cg (by simp only [zL_toInt (e := n) (by omega), lN_toI (n := 1) (by omega), lN_toI (n := 32) (by omega)]))
  obtain rfl := hq6
  refine z_ifb_eq (P := ((1 : Nat) : Int) ≤ n ∧ n ≤ ((32 : Nat) : Int)) (tgt := 25) hx hb dX7_row_9 (by decide) (fun c9 => ?_) (fun c9 => ?_)
  · refine lv_iconst (v := zI (-1)) hx hb dX7_row_25 rfl ?_
    have hP := hP.sub (ws' := [oM y b (((R : Nat) : Int)) (fm) (kn) (pm0) (lm), aI t (b 0) 24 (cN (F)), aJ t (b 1) 24 (G)]) [0, 1, 2] rfl
    have hD := hD.sub (ws' := [oM y b (((R : Nat) : Int)) (fm) (kn) (pm0) (lm), aI t (b 0) 24 (cN (F)), aJ t (b 1) 24 (G)]) [0, 1, 2] (by decide) rfl
    exact W.iret (v := (zI ((-1)))) hx hb hr (fun tq ht hW => ⟨⟨_, (R, F, G), rfl, by rw [sp_row, if_neg (fun z => by omega)]; exact ⟨rfl, rfl⟩, by rw [ht]; exact hP, va_K.moved hW.alike hK, hD⟩, hS.F ht⟩) hS.2.2 dX7_row_26
  · have p1 : 2 ^ n.toNat ≤ 2 ^ 32 := Nat.pow_le_pow_right (n := 2) (j := 32) (by decide) (by omega)
    have p0 := Nat.two_pow_pos n.toNat
    refine lv_lload_n hx hb dX7_row_12 rfl (lv_at hl 2 rfl) ?_
    refine lv_lconst (v := lN 0) hx hb dX7_row_13 rfl ?_
    refine lv_lconst (v := lN 1) hx hb dX7_row_14 rfl ?_
    refine lv_iload_n hx hb dX7_row_15 rfl (lv_at hl 1 rfl) ?_
    refine z_re (e2 := ((n.toNat : Nat) : Int)) (by omega) ?_
    refine n_lshl hx hb (q := n.toNat) (by omega) dX7_row_16 ?_
    refine n_re (e2 := 2 ^ n.toNat) (Nat.one_shiftLeft _) ?_
    refine lv_lconst (v := lN 1) hx hb dX7_row_17 rfl ?_
    refine n_lsub hx hb (by omega) dX7_row_18 ?_
    refine vp_callSi (va_runS (As := [.long (zL (v)), .long (lN (0)), .long (lN ((2 ^ n.toNat) - (1)))]) (rest := []) ⟨hx, hb, hml, hown, hts⟩ (c_X7_in l _ _ _) (va_cwS 3 hts gX7_row_X7_in rfl rfl rfl (by decide +kernel) ⟨Nat.le_of_ble_eq_true rfl, Nat.le_of_ble_eq_true rfl⟩) ⟨fun a U g mk q => q, fun U hU hW => ⟨rfl, trivial⟩⟩ rfl rfl hl.1 rfl (lv_room (Nat.le_of_ble_eq_true rfl)) dX7_row_19 ⟨Nat.le_of_ble_eq_true rfl, Nat.le_of_ble_eq_true rfl⟩).run (fun r hr19 => ?_)
    have hq19 : r = zI (bP (((0 : Nat) : Int) ≤ v ∧ v ≤ (((2 ^ n.toNat) - (1) : Nat) : Int))) := by rw [hr19]; exact congrArg zI (bP_cg (by simp only [zL_toInt (e := v) (by omega), lN_toI (n := 0) (by omega), lN_toI (n := (2 ^ n.toNat) - (1)) (by omega)]))
    obtain rfl := hq19
    refine z_ifb_ne (P := ((0 : Nat) : Int) ≤ v ∧ v ≤ (((2 ^ n.toNat) - (1) : Nat) : Int)) (tgt := 27) hx hb dX7_row_22 (by decide) (fun c22 => ?_) (fun c22 => ?_)
    · refine lv_aload_n hx hb dX7_row_27 rfl (lv_at hl 0 rfl) ?_
      refine va_get (D := D) (ci := 6) (v := .int (zI (((R : Nat) : Int)))) (C := RX7) (T := TX7) (N := 16) hx hb hts iX7 hown hK hP 0 rfl rfl 0 (by decide) (hts (.fieldLink RX7 49 "CancelRowsModel" "many" "I") (by decide +kernel)) (fun _ h9 => h9) rfl dX7_row_28 ?_
      refine lv_bipush (v := zI 24) hx hb dX7_row_31 (by decide +kernel) ?_
      refine z_icmp_ne (tgt := 41) hx hb dX7_row_33 (by decide) (by omega) (by omega) (fun c33 => ?_) (fun c33 => ?_)
      · refine lv_aload_n hx hb dX7_row_41 rfl (lv_at hl 0 rfl) ?_
        refine lv_iload_n hx hb dX7_row_42 rfl (lv_at hl 1 rfl) ?_
        refine z_re (e2 := ((n.toNat : Nat) : Int)) (by omega) ?_
        refine lv_lload_n hx hb dX7_row_43 rfl (lv_at hl 2 rfl) ?_
        refine zn_re (e2 := v.toNat) (by omega) ?_
        have hPc := hP.sub (ws' := [oM y b (((R : Nat) : Int)) (fm) (kn) (pm0) (lm), aI t (b 0) 24 (cN F), aJ t (b 1) 24 (G)]) [0, 1, 2] rfl
        have hDc := hD.sub (ws' := [oM y b (((R : Nat) : Int)) (fm) (kn) (pm0) (lm), aI t (b 0) 24 (cN F), aJ t (b 1) 24 (G)]) [0, 1, 2] (by decide) rfl
        have hFc := va_free (wc := [oM y b (((R : Nat) : Int)) (fm) (kn) (pm0) (lm), aI t (b 0) 24 (cN F), aJ t (b 1) 24 (G)]) hD hS hA [0, 1, 2] rfl
        refine va_calli (va_runV (As := [.int (zI (((n.toNat : Nat) : Int))), .long (lN (v.toNat))]) (rest := []) ⟨hx, hb, hml, hown, hts⟩ (c_X7_added l D t s.heap.size y b (R) fm kn pm0 lm (F) (G) (by omega) (n.toNat) (v.toNat) (by omega)) (cwV 2 hts gX7_row_X7_added rfl rfl rfl (by decide +kernel) ⟨Nat.le_of_ble_eq_true rfl, Nat.le_of_ble_eq_true rfl⟩) ⟨fun a U g mk q => by obtain ⟨q0, q1, qP, qK, qD⟩ := q; exact ⟨q0, q1, qP, va_K.moved (u := U) (U := U.calling g mk a) (Vm.Alike.refl U.vm) qK, qD⟩, va_recv hK hPc (ci := 6) (q0 := 0) rfl rfl, fun U hU hW => ⟨rfl, by rw [hU], by rw [hU]; exact hPc, va_K.moved hW.alike hK, hDc.weaken (fun _ _ _ _ => trivial)⟩⟩ rfl rfl hl.1 rfl (lv_room (Nat.le_of_ble_eq_true rfl)) dX7_row_44 ⟨Nat.le_of_ble_eq_true rfl, Nat.le_of_ble_eq_true rfl⟩) hS (fun q _ h => hFc q h) hFc (fun r u tq H1 locs ht hvm hr44 hB hz1 hk1 hS => ?_)
        obtain ⟨R2, F2, G2⟩ := u
        obtain ⟨hP1, hK1, hD1⟩ := hB
        rw [ht] at hP1
        obtain ⟨hP, hD⟩ := va_join (wr := []) (w1 := [oM y b (((R2 : Nat) : Int)) (fm) (kn) (pm0) (lm), aI t (b 0) 24 (cN (F2)), aJ t (b 1) 24 (G2)]) hP hD [0, 1, 2] [] rfl rfl (by decide) (by decide) hk1 hFc hP1 hD1
        generalize H1 = H at hP hS ⊢
        have hP : va_P D vwCl [oM y b (((R2 : Nat) : Int)) (fm) (kn) (pm0) (lm), aI t (b 0) 24 (cN (F2)), aJ t (b 1) 24 (G2)] H := hP
        have hD : va_D AA [oM y b (((R2 : Nat) : Int)) (fm) (kn) (pm0) (lm), aI t (b 0) 24 (cN (F2)), aJ t (b 1) 24 (G2)] := hD
        obtain ⟨rfl, hu⟩ := hr44
        obtain ⟨rfl, rfl, rfl⟩ : R2 = R + 1 ∧ F2 = va_up (F) (R) (n.toNat) ∧ G2 = va_up (G) (R) (v.toNat) := ⟨congrArg (·.1) hu, congrArg (·.2.1) hu, congrArg (·.2.2) hu⟩
        have hP := hP.sub (ws' := [oM y b (((R + 1 : Nat) : Int)) (fm) (kn) (pm0) (lm), aI t (b 0) 24 (cN (va_up F R n.toNat)), aJ t (b 1) 24 (va_up G R v.toNat)]) [0, 1, 2] rfl
        have hD := hD.sub (ws' := [oM y b (((R + 1 : Nat) : Int)) (fm) (kn) (pm0) (lm), aI t (b 0) 24 (cN (va_up F R n.toNat)), aJ t (b 1) 24 (va_up G R v.toNat)]) [0, 1, 2] (by decide) rfl
        exact W.iret (v := (zI (((R : Nat) : Int)))) hx hb hr (fun tq ht hW => ⟨⟨_, (R + 1, va_up F R n.toNat, va_up G R v.toNat), rfl, by rw [sp_row, if_pos (by omega), sp_add_y (by omega)]; exact ⟨rfl, rfl⟩, by rw [ht]; exact hP, va_K.moved hW.alike hK, hD⟩, hS.F ht⟩) hS.2.2 dX7_row_47
      · refine lv_bipush (v := zI (-3)) hx hb dX7_row_36 (by decide +kernel) ?_
        refine lv_goto (tgt := 47) hx hb dX7_row_38 (by decide) ?_
        have hP := hP.sub (ws' := [oM y b (((R : Nat) : Int)) (fm) (kn) (pm0) (lm), aI t (b 0) 24 (cN (F)), aJ t (b 1) 24 (G)]) [0, 1, 2] rfl
        have hD := hD.sub (ws' := [oM y b (((R : Nat) : Int)) (fm) (kn) (pm0) (lm), aI t (b 0) 24 (cN (F)), aJ t (b 1) 24 (G)]) [0, 1, 2] (by decide) rfl
        exact W.iret (v := (zI ((-3)))) hx hb hr (fun tq ht hW => ⟨⟨_, (R, F, G), rfl, by rw [sp_row, if_pos (by omega), sp_add_n (by omega)]; exact ⟨rfl, rfl⟩, by rw [ht]; exact hP, va_K.moved hW.alike hK, hD⟩, hS.F ht⟩) hS.2.2 dX7_row_47
    · refine lv_iconst (v := zI (-1)) hx hb dX7_row_25 rfl ?_
      have hP := hP.sub (ws' := [oM y b (((R : Nat) : Int)) (fm) (kn) (pm0) (lm), aI t (b 0) 24 (cN (F)), aJ t (b 1) 24 (G)]) [0, 1, 2] rfl
      have hD := hD.sub (ws' := [oM y b (((R : Nat) : Int)) (fm) (kn) (pm0) (lm), aI t (b 0) 24 (cN (F)), aJ t (b 1) 24 (G)]) [0, 1, 2] (by decide) rfl
      exact W.iret (v := (zI ((-1)))) hx hb hr (fun tq ht hW => ⟨⟨_, (R, F, G), rfl, by rw [sp_row, if_neg (fun z => by omega)]; exact ⟨rfl, rfl⟩, by rw [ht]; exact hP, va_K.moved hW.alike hK, hD⟩, hS.F ht⟩) hS.2.2 dX7_row_26

-- the check: drop
set_option maxHeartbeats 4000000 in
set_option maxRecDepth 100000 in
theorem c_X7_drop (l : Launch) (D : va_G) (t : Nat → ClassId) (sz : Nat) (y : Nat) (b : Nat → Nat) (R : Nat) (fm kn pm0 lm : Int) (F G : Nat → Nat) (gV : RV R F G)  : Met l yX7_drop wsX7_drop ({ frames := 0, cells := 0, slots := 0, locals := 0 }) (va_Pc [.ref y] (fun U => U.heap.size = sz ∧ va_P D vwCl ([oM y b (((R : Nat) : Int)) (fm) (kn) (pm0) (lm), aI t (b 0) 24 (cN F), aJ t (b 1) 24 (G)]) U.heap ∧ va_K D vwCl (TY t) U ∧ va_D (fun _ => True) ([oM y b (((R : Nat) : Int)) (fm) (kn) (pm0) (lm), aI t (b 0) 24 (cN F), aJ t (b 1) 24 (G)]))) (va_Qi (fun r (u : RT) => r = zI (sp_drop R F G).1 ∧ u = (sp_drop R F G).2) (fun (u : RT) t1 => va_P D vwCl ([oM y b (((u.1 : Nat) : Int)) (fm) (kn) (pm0) (lm), aI t (b 0) 24 (cN (u.2.1)), aJ t (b 1) 24 (u.2.2)]) t1.heap ∧ va_K D vwCl (TY t) t1 ∧ va_D (va_A ([oM y b (((R : Nat) : Int)) (fm) (kn) (pm0) (lm), aI t (b 0) 24 (cN F), aJ t (b 1) 24 (G)]) sz) ([oM y b (((u.1 : Nat) : Int)) (fm) (kn) (pm0) (lm), aI t (b 0) 24 (cN (u.2.1)), aJ t (b 1) 24 (u.2.2)])) (va_A ([oM y b (((R : Nat) : Int)) (fm) (kn) (pm0) (lm), aI t (b 0) 24 (cN F), aJ t (b 1) 24 (G)]) sz)) 0 0 (va_A ([oM y b (((R : Nat) : Int)) (fm) (kn) (pm0) (lm), aI t (b 0) 24 (cN F), aJ t (b 1) 24 (G)]) sz) := by
  refine Met.ofW (cc := cX7_drop) (maxL := 1) (ret := (some .int)) (by decide) rfl ?_
  intro p e s m args below meth c s₁ B hml hv
  obtain ⟨rfl, hsz, hP, hK, hD0⟩ := hv
  have hx := B.exec
  have hb := B.bytes
  have hr := B.returns
  have hts := atoms_spec (ws := wsX7_drop) B.pre
  have hown : s.vm.findClass RX7 = some m.cls := findClass_of_methodNamed B.named
  have hlocks := B.notSynchronized
  subst hsz
  have hD := hD0.self (sz := s.heap.size)
  generalize hAe : va_A ([oM y b (((R : Nat) : Int)) (fm) (kn) (pm0) (lm), aI t (b 0) 24 (cN F), aJ t (b 1) 24 (G)]) s.heap.size = AA at hD ⊢
  have hA : ∀ q : Nat, s.heap.size ≤ q → AA q := fun q h => by rw [← hAe]; exact Or.inr h
  have hS : va_S AA s.heap s.heap [] := va_S.rf
  have hP : va_P D vwCl ([oM y b (((R : Nat) : Int)) (fm) (kn) (pm0) (lm), aI t (b 0) 24 (cN F), aJ t (b 1) 24 (G)]) s.heap := hP
  have hl := lv_entry ([.ref y]) (n := 1) (Nat.le_of_ble_eq_true rfl)
  rw [lg_entry_eq]
  generalize (lg_sl ([.ref y]) ++ List.replicate (1 - (lg_sl ([.ref y])).length) Slot.unset).toArray = ls at hl ⊢
  have hl : lv_has ls 1 [(0, .ref y)] := hl
  have iX7 : ∀ w ∈ u_ws RX7 TX7 16, w ∈ wsX7_drop := by decide +kernel
  have gR := gV.1
  refine lv_aload_n hx hb dX7_drop_0 rfl (lv_at hl 0 rfl) ?_
  refine va_get (D := D) (ci := 6) (v := .int (zI (((R : Nat) : Int)))) (C := RX7) (T := TX7) (N := 16) hx hb hts iX7 hown hK hP 0 rfl rfl 0 (by decide) (hts (.fieldLink RX7 49 "CancelRowsModel" "many" "I") (by decide +kernel)) (fun _ h9 => h9) rfl dX7_drop_1 ?_
  refine z_if_ne (tgt := 10) hx hb dX7_drop_4 (by decide) (by omega) (fun c4 => ?_) (fun c4 => ?_)
  · refine lv_aload_n hx hb dX7_drop_10 rfl (lv_at hl 0 rfl) ?_
    refine lv_dup hx hb dX7_drop_11 rfl ?_
    refine va_get (D := D) (ci := 6) (v := .int (zI (((R : Nat) : Int)))) (C := RX7) (T := TX7) (N := 16) hx hb hts iX7 hown hK hP 0 rfl rfl 0 (by decide) (hts (.fieldLink RX7 49 "CancelRowsModel" "many" "I") (by decide +kernel)) (fun _ h9 => h9) rfl dX7_drop_12 ?_
    refine lv_iconst (v := zI 1) hx hb dX7_drop_15 rfl ?_
    refine z_isub hx hb dX7_drop_16 ?_
    refine z_re (e2 := ((R - 1 : Nat) : Int)) (by omega) ?_
    refine va_put (D := D) (ci := 6) (v := .int (zI (((R - 1 : Nat) : Int)))) (ty := .int) (C := RX7) (T := TX7) (N := 16) hx hb hts iX7 tyX7 tyX7_ok nmX7 hown hK hP hD hS 0 rfl rfl 0 (by decide) (hts (.fieldLink RX7 49 "CancelRowsModel" "many" "I") (by decide +kernel)) (fun _ h9 => h9) rfl (by decide +kernel) rfl rfl (Nat.le_of_ble_eq_true rfl) dX7_drop_17 (fun H locs hP hD hS => ?_)
    have hP : va_P D vwCl [oM y b (((R - 1 : Nat) : Int)) (fm) (kn) (pm0) (lm), aI t (b 0) 24 (cN F), aJ t (b 1) 24 (G)] H := hP
    have hD : va_D AA [oM y b (((R - 1 : Nat) : Int)) (fm) (kn) (pm0) (lm), aI t (b 0) 24 (cN F), aJ t (b 1) 24 (G)] := hD
    refine lv_aload_n hx hb dX7_drop_20 rfl (lv_at hl 0 rfl) ?_
    refine va_get (D := D) (ci := 6) (v := .int (zI (((R - 1 : Nat) : Int)))) (C := RX7) (T := TX7) (N := 16) hx hb hts iX7 hown hK hP 0 rfl rfl 0 (by decide) (hts (.fieldLink RX7 49 "CancelRowsModel" "many" "I") (by decide +kernel)) (fun _ h9 => h9) rfl dX7_drop_21 ?_
    have hP := hP.sub (ws' := [oM y b (((R - 1 : Nat) : Int)) (fm) (kn) (pm0) (lm), aI t (b 0) 24 (cN (F)), aJ t (b 1) 24 (G)]) [0, 1, 2] rfl
    have hD := hD.sub (ws' := [oM y b (((R - 1 : Nat) : Int)) (fm) (kn) (pm0) (lm), aI t (b 0) 24 (cN (F)), aJ t (b 1) 24 (G)]) [0, 1, 2] (by decide) rfl
    exact W.iret (v := (zI (((R - 1 : Nat) : Int)))) hx hb hr (fun tq ht hW => ⟨⟨_, (R - 1, F, G), rfl, by rw [sp_drop, if_neg (by omega)]; exact ⟨rfl, rfl⟩, by rw [ht]; exact hP, va_K.moved hW.alike hK, hD⟩, hS.F ht⟩) hS.2.2 dX7_drop_24
  · refine lv_bipush (v := zI (-4)) hx hb dX7_drop_7 (by decide +kernel) ?_
    have hP := hP.sub (ws' := [oM y b (((R : Nat) : Int)) (fm) (kn) (pm0) (lm), aI t (b 0) 24 (cN (F)), aJ t (b 1) 24 (G)]) [0, 1, 2] rfl
    have hD := hD.sub (ws' := [oM y b (((R : Nat) : Int)) (fm) (kn) (pm0) (lm), aI t (b 0) 24 (cN (F)), aJ t (b 1) 24 (G)]) [0, 1, 2] (by decide) rfl
    exact W.iret (v := (zI ((-4)))) hx hb hr (fun tq ht hW => ⟨⟨_, (R, F, G), rfl, by rw [sp_drop, if_pos (by omega)]; exact ⟨rfl, rfl⟩, by rw [ht]; exact hP, va_K.moved hW.alike hK, hD⟩, hS.F ht⟩) hS.2.2 dX7_drop_9

-- the check: length
set_option maxHeartbeats 4000000 in
set_option maxRecDepth 100000 in
theorem c_X7_length (l : Launch) (D : va_G) (t : Nat → ClassId) (y : Nat) (b : Nat → Nat) (R : Nat) (fm kn pm0 lm : Int) (F G : Nat → Nat) (gV : RV R F G) (i : Int) (gi : -2147483648 ≤ i ∧ i < 2147483648) : Met l yX7_length wsX7_length ({ frames := 2, cells := 0, slots := 0, locals := 46 }) (va_Pc [.ref y, .int (zI (i))] (fun U => va_P D vwCl ([oM y b (((R : Nat) : Int)) (fm) (kn) (pm0) (lm), aI t (b 0) 24 (cN F), aJ t (b 1) 24 (G)]) U.heap ∧ va_K D vwCl (TY t) U)) (vp_Si (fun r => r = zI (sp_len R F i))) 0 0 (fun _ => False) := by
  refine Met.ofW (cc := cX7_length) (maxL := 2) (ret := (some .int)) (by decide) rfl ?_
  intro p e s m args below meth c s₁ B hml hv
  obtain ⟨rfl, hP, hK⟩ := hv
  have hx := B.exec
  have hb := B.bytes
  have hr := B.returns
  have hts := atoms_spec (ws := wsX7_length) B.pre
  have hown : s.vm.findClass RX7 = some m.cls := findClass_of_methodNamed B.named
  have hlocks := B.notSynchronized
  have hl := lv_entry ([.ref y, .int (zI (i))]) (n := 2) (Nat.le_of_ble_eq_true rfl)
  rw [lg_entry_eq]
  generalize (lg_sl ([.ref y, .int (zI (i))]) ++ List.replicate (2 - (lg_sl ([.ref y, .int (zI (i))])).length) Slot.unset).toArray = ls at hl ⊢
  have hl : lv_has ls 2 [(0, .ref y), (1, .int (zI (i)))] := hl
  have iX7 : ∀ w ∈ u_ws RX7 TX7 16, w ∈ wsX7_length := by decide +kernel
  have gR := gV.1
  refine lv_aload_n hx hb dX7_length_0 rfl (lv_at hl 0 rfl) ?_
  refine lv_iload_n hx hb dX7_length_1 rfl (lv_at hl 1 rfl) ?_
  have hPc := hP.sub (ws' := [oM y b (((R : Nat) : Int)) (fm) (kn) (pm0) (lm)]) [0] rfl
  refine vp_callSi (va_runV (As := [.int (zI (i))]) (rest := []) ⟨hx, hb, hml, hown, hts⟩ (c_X7_is l D t y b R fm kn pm0 lm gV.1 i gi) (cwV 1 hts gX7_length_X7_is rfl rfl rfl (by decide +kernel) ⟨Nat.le_of_ble_eq_true rfl, Nat.le_of_ble_eq_true rfl⟩) ⟨fun a U g mk q => ⟨q.1, q.2.1, va_K.moved (u := U) (U := U.calling g mk a) (Vm.Alike.refl U.vm) q.2.2⟩, va_recv hK hPc (ci := 6) (q0 := 0) rfl rfl, fun U hU hW => ⟨rfl, by rw [hU]; exact hPc, va_K.moved hW.alike hK⟩⟩ rfl rfl hl.1 rfl (lv_room (Nat.le_of_ble_eq_true rfl)) dX7_length_2 ⟨Nat.le_of_ble_eq_true rfl, Nat.le_of_ble_eq_true rfl⟩).run (fun r hr2 => ?_)
  obtain rfl := hr2
  refine z_ifb_eq (P := inR R (i)) (tgt := 17) hx hb dX7_length_5 (by decide) (fun c5 => ?_) (fun c5 => ?_)
  · refine lv_iconst (v := zI (-1)) hx hb dX7_length_17 rfl ?_
    exact W.iret (v := (zI ((-1)))) hx hb hr (fun tq ht hW => ⟨_, rfl, by rw [sp_len, if_neg c5], ht⟩) (fun q h => by cases h) dX7_length_18
  · have h1 := RV_at gV c5
    refine lv_aload_n hx hb dX7_length_8 rfl (lv_at hl 0 rfl) ?_
    refine va_get (D := D) (ci := 6) (v := .ref (b 0)) (C := RX7) (T := TX7) (N := 16) hx hb hts iX7 hown hK hP 0 rfl rfl 1 (by decide) (hts (.fieldLink RX7 7 "CancelRowsModel" "lengths" "[I") (by decide +kernel)) (fun _ h9 => h9) rfl dX7_length_9 ?_
    refine lv_iload_n hx hb dX7_length_12 rfl (lv_at hl 1 rfl) ?_
    refine z_iald hx hb hK hP 1 0 rfl rfl (i.toNat) (by omega) (by omega) (by omega) dX7_length_13 ?_
    refine z_re (e2 := ((F (i.toNat) : Nat) : Int)) (rfl) ?_
    refine lv_goto (tgt := 18) hx hb dX7_length_14 (by decide) ?_
    exact W.iret (v := (zI (((F (i.toNat) : Nat) : Int)))) hx hb hr (fun tq ht hW => ⟨_, rfl, by rw [sp_len, if_pos c5], ht⟩) (fun q h => by cases h) dX7_length_18

-- the check: number
set_option maxHeartbeats 4000000 in
set_option maxRecDepth 100000 in
theorem c_X7_number (l : Launch) (D : va_G) (t : Nat → ClassId) (y : Nat) (b : Nat → Nat) (R : Nat) (fm kn pm0 lm : Int) (F G : Nat → Nat) (gV : RV R F G) (i : Int) (gi : -2147483648 ≤ i ∧ i < 2147483648) : Met l yX7_number wsX7_number ({ frames := 2, cells := 0, slots := 0, locals := 46 }) (va_Pc [.ref y, .int (zI (i))] (fun U => va_P D vwCl ([oM y b (((R : Nat) : Int)) (fm) (kn) (pm0) (lm), aI t (b 0) 24 (cN F), aJ t (b 1) 24 (G)]) U.heap ∧ va_K D vwCl (TY t) U)) (vp_Sl (fun r => r = zL (sp_num R G i))) 0 0 (fun _ => False) := by
  refine Met.ofW (cc := cX7_number) (maxL := 2) (ret := (some .long)) (by decide) rfl ?_
  intro p e s m args below meth c s₁ B hml hv
  obtain ⟨rfl, hP, hK⟩ := hv
  have hx := B.exec
  have hb := B.bytes
  have hr := B.returns
  have hts := atoms_spec (ws := wsX7_number) B.pre
  have hown : s.vm.findClass RX7 = some m.cls := findClass_of_methodNamed B.named
  have hlocks := B.notSynchronized
  have hl := lv_entry ([.ref y, .int (zI (i))]) (n := 2) (Nat.le_of_ble_eq_true rfl)
  rw [lg_entry_eq]
  generalize (lg_sl ([.ref y, .int (zI (i))]) ++ List.replicate (2 - (lg_sl ([.ref y, .int (zI (i))])).length) Slot.unset).toArray = ls at hl ⊢
  have hl : lv_has ls 2 [(0, .ref y), (1, .int (zI (i)))] := hl
  have iX7 : ∀ w ∈ u_ws RX7 TX7 16, w ∈ wsX7_number := by decide +kernel
  have gR := gV.1
  refine lv_aload_n hx hb dX7_number_0 rfl (lv_at hl 0 rfl) ?_
  refine lv_iload_n hx hb dX7_number_1 rfl (lv_at hl 1 rfl) ?_
  have hPc := hP.sub (ws' := [oM y b (((R : Nat) : Int)) (fm) (kn) (pm0) (lm)]) [0] rfl
  refine vp_callSi (va_runV (As := [.int (zI (i))]) (rest := []) ⟨hx, hb, hml, hown, hts⟩ (c_X7_is l D t y b R fm kn pm0 lm gV.1 i gi) (cwV 1 hts gX7_number_X7_is rfl rfl rfl (by decide +kernel) ⟨Nat.le_of_ble_eq_true rfl, Nat.le_of_ble_eq_true rfl⟩) ⟨fun a U g mk q => ⟨q.1, q.2.1, va_K.moved (u := U) (U := U.calling g mk a) (Vm.Alike.refl U.vm) q.2.2⟩, va_recv hK hPc (ci := 6) (q0 := 0) rfl rfl, fun U hU hW => ⟨rfl, by rw [hU]; exact hPc, va_K.moved hW.alike hK⟩⟩ rfl rfl hl.1 rfl (lv_room (Nat.le_of_ble_eq_true rfl)) dX7_number_2 ⟨Nat.le_of_ble_eq_true rfl, Nat.le_of_ble_eq_true rfl⟩).run (fun r hr2 => ?_)
  obtain rfl := hr2
  refine z_ifb_eq (P := inR R (i)) (tgt := 17) hx hb dX7_number_5 (by decide) (fun c5 => ?_) (fun c5 => ?_)
  · refine lv_ldc2 (v := zL (-1)) hx hb hown (hts (.constantLong RX7 74 (zL (-1))) (by decide +kernel)) dX7_number_17 ?_
    exact W.lret (v := (zL ((-1)))) hx hb hr (fun tq ht hW => ⟨_, rfl, by rw [sp_num, if_neg c5], ht⟩) (fun q h => by cases h) dX7_number_20
  · have h1 := RV_at gV c5
    refine lv_aload_n hx hb dX7_number_8 rfl (lv_at hl 0 rfl) ?_
    refine va_get (D := D) (ci := 6) (v := .ref (b 1)) (C := RX7) (T := TX7) (N := 16) hx hb hts iX7 hown hK hP 0 rfl rfl 2 (by decide) (hts (.fieldLink RX7 13 "CancelRowsModel" "numbers" "[J") (by decide +kernel)) (fun _ h9 => h9) rfl dX7_number_9 ?_
    refine lv_iload_n hx hb dX7_number_12 rfl (lv_at hl 1 rfl) ?_
    refine l_lald hx hb hK hP 2 1 rfl rfl (i.toNat) (by omega) (by omega) (by omega) dX7_number_13 ?_
    refine lv_goto (tgt := 20) hx hb dX7_number_14 (by decide) ?_
    exact W.lret (v := (lN ((G) (i.toNat)))) hx hb hr (fun tq ht hW => ⟨_, rfl, by rw [sp_num, if_pos c5, zL_lN], ht⟩) (fun q h => by cases h) dX7_number_20

-- the check: place
set_option maxHeartbeats 4000000 in
set_option maxRecDepth 100000 in
theorem c_X7_place (l : Launch) (D : va_G) (t : Nat → ClassId) (y : Nat) (b : Nat → Nat) (R : Nat) (fm kn pm0 lm : Int) (F G : Nat → Nat) (gV : RV R F G) (i j : Int) (gi : -2147483648 ≤ i ∧ i < 2147483648) (gj : -2147483648 ≤ j ∧ j < 2147483648) : Met l yX7_place wsX7_place ({ frames := 2, cells := 0, slots := 0, locals := 46 }) (va_Pc [.ref y, .int (zI (i)), .int (zI (j))] (fun U => va_P D vwCl ([oM y b (((R : Nat) : Int)) (fm) (kn) (pm0) (lm), aI t (b 0) 24 (cN F), aJ t (b 1) 24 (G)]) U.heap ∧ va_K D vwCl (TY t) U)) (vp_Si (fun r => r = zI (sp_place R F G i j))) 0 0 (fun _ => False) := by
  refine Met.ofW (cc := cX7_place) (maxL := 3) (ret := (some .int)) (by decide) rfl ?_
  intro p e s m args below meth c s₁ B hml hv
  obtain ⟨rfl, hP, hK⟩ := hv
  have hx := B.exec
  have hb := B.bytes
  have hr := B.returns
  have hts := atoms_spec (ws := wsX7_place) B.pre
  have hown : s.vm.findClass RX7 = some m.cls := findClass_of_methodNamed B.named
  have hlocks := B.notSynchronized
  have hl := lv_entry ([.ref y, .int (zI (i)), .int (zI (j))]) (n := 3) (Nat.le_of_ble_eq_true rfl)
  rw [lg_entry_eq]
  generalize (lg_sl ([.ref y, .int (zI (i)), .int (zI (j))]) ++ List.replicate (3 - (lg_sl ([.ref y, .int (zI (i)), .int (zI (j))])).length) Slot.unset).toArray = ls at hl ⊢
  have hl : lv_has ls 3 [(0, .ref y), (1, .int (zI (i))), (2, .int (zI (j)))] := hl
  have iX7 : ∀ w ∈ u_ws RX7 TX7 16, w ∈ wsX7_place := by decide +kernel
  have gR := gV.1
  refine lv_aload_n hx hb dX7_place_0 rfl (lv_at hl 0 rfl) ?_
  refine lv_iload_n hx hb dX7_place_1 rfl (lv_at hl 1 rfl) ?_
  have hPc := hP.sub (ws' := [oM y b (((R : Nat) : Int)) (fm) (kn) (pm0) (lm)]) [0] rfl
  refine vp_callSi (va_runV (As := [.int (zI (i))]) (rest := []) ⟨hx, hb, hml, hown, hts⟩ (c_X7_is l D t y b R fm kn pm0 lm gV.1 i gi) (cwV 1 hts gX7_place_X7_is rfl rfl rfl (by decide +kernel) ⟨Nat.le_of_ble_eq_true rfl, Nat.le_of_ble_eq_true rfl⟩) ⟨fun a U g mk q => ⟨q.1, q.2.1, va_K.moved (u := U) (U := U.calling g mk a) (Vm.Alike.refl U.vm) q.2.2⟩, va_recv hK hPc (ci := 6) (q0 := 0) rfl rfl, fun U hU hW => ⟨rfl, by rw [hU]; exact hPc, va_K.moved hW.alike hK⟩⟩ rfl rfl hl.1 rfl (lv_room (Nat.le_of_ble_eq_true rfl)) dX7_place_2 ⟨Nat.le_of_ble_eq_true rfl, Nat.le_of_ble_eq_true rfl⟩).run (fun r hr2 => ?_)
  obtain rfl := hr2
  refine z_ifb_eq (P := inR R (i)) (tgt := 39) hx hb dX7_place_5 (by decide) (fun c5 => ?_) (fun c5 => ?_)
  · refine lv_iconst (v := zI 0) hx hb dX7_place_39 rfl ?_
    exact W.iret (v := (zI (0))) hx hb hr (fun tq ht hW => ⟨_, rfl, by rw [sp_place, if_neg (fun z => c5 z.1)], ht⟩) (fun q h => by cases h) dX7_place_40
  · have h1 := RV_at gV c5
    refine lv_iload_n hx hb dX7_place_8 rfl (lv_at hl 2 rfl) ?_
    refine z_i2l hx hb (by omega) dX7_place_9 ?_
    refine lv_lconst (v := lN 0) hx hb dX7_place_10 rfl ?_
    refine lv_aload_n hx hb dX7_place_11 rfl (lv_at hl 0 rfl) ?_
    refine va_get (D := D) (ci := 6) (v := .ref (b 0)) (C := RX7) (T := TX7) (N := 16) hx hb hts iX7 hown hK hP 0 rfl rfl 1 (by decide) (hts (.fieldLink RX7 7 "CancelRowsModel" "lengths" "[I") (by decide +kernel)) (fun _ h9 => h9) rfl dX7_place_12 ?_
    refine lv_iload_n hx hb dX7_place_15 rfl (lv_at hl 1 rfl) ?_
    refine z_iald hx hb hK hP 1 0 rfl rfl (i.toNat) (by omega) (by omega) (by omega) dX7_place_16 ?_
    refine z_re (e2 := ((F (i.toNat) : Nat) : Int)) (rfl) ?_
    refine lv_iconst (v := zI 1) hx hb dX7_place_17 rfl ?_
    refine z_isub hx hb dX7_place_18 ?_
    refine z_i2l hx hb (by omega) dX7_place_19 ?_
    refine vp_callSi (va_runS (As := [.long (zL (j)), .long (lN (0)), .long (zL ((((F (i.toNat) : Nat) : Int)) - (1)))]) (rest := []) ⟨hx, hb, hml, hown, hts⟩ (c_X7_in l _ _ _) (va_cwS 3 hts gX7_place_X7_in rfl rfl rfl (by decide +kernel) ⟨Nat.le_of_ble_eq_true rfl, Nat.le_of_ble_eq_true rfl⟩) ⟨fun a U g mk q => q, fun U hU hW => ⟨rfl, trivial⟩⟩ rfl rfl hl.1 rfl (lv_room (Nat.le_of_ble_eq_true rfl)) dX7_place_20 ⟨Nat.le_of_ble_eq_true rfl, Nat.le_of_ble_eq_true rfl⟩).run (fun r hr20 => ?_)
    have hq20 : r = zI (bP (((0 : Nat) : Int) ≤ j ∧ j ≤ (((F (i.toNat) : Nat) : Int)) - (1))) := by rw [hr20]; exact congrArg zI (bP_cg (by simp only [zL_toInt (e := j) (by omega), lN_toI (n := 0) (by omega), zL_toInt (e := (((F (i.toNat) : Nat) : Int)) - (1)) (by omega)]))
    obtain rfl := hq20
    refine z_ifb_eq (P := ((0 : Nat) : Int) ≤ j ∧ j ≤ (((F (i.toNat) : Nat) : Int)) - (1)) (tgt := 39) hx hb dX7_place_23 (by decide) (fun c23 => ?_) (fun c23 => ?_)
    · refine lv_iconst (v := zI 0) hx hb dX7_place_39 rfl ?_
      exact W.iret (v := (zI (0))) hx hb hr (fun tq ht hW => ⟨_, rfl, by rw [sp_place, if_neg (fun z => c23 (by omega))], ht⟩) (fun q h => by cases h) dX7_place_40
    · refine lv_aload_n hx hb dX7_place_26 rfl (lv_at hl 0 rfl) ?_
      refine va_get (D := D) (ci := 6) (v := .ref (b 1)) (C := RX7) (T := TX7) (N := 16) hx hb hts iX7 hown hK hP 0 rfl rfl 2 (by decide) (hts (.fieldLink RX7 13 "CancelRowsModel" "numbers" "[J") (by decide +kernel)) (fun _ h9 => h9) rfl dX7_place_27 ?_
      refine lv_iload_n hx hb dX7_place_30 rfl (lv_at hl 1 rfl) ?_
      refine l_lald hx hb hK hP 2 1 rfl rfl (i.toNat) (by omega) (by omega) (by omega) dX7_place_31 ?_
      refine lv_iload_n hx hb dX7_place_32 rfl (lv_at hl 2 rfl) ?_
      refine z_re (e2 := ((j.toNat : Nat) : Int)) (by omega) ?_
      refine vp_callSi (va_runS (As := [.long (lN ((G) (i.toNat))), .int (zI (((j.toNat : Nat) : Int)))]) (rest := []) ⟨hx, hb, hml, hown, hts⟩ (c_X7_at l (G i.toNat) j.toNat (lt32 h1.2.2 h1.2.1) (by omega)) (va_cwS 2 hts gX7_place_X7_at rfl rfl rfl (by decide +kernel) ⟨Nat.le_of_ble_eq_true rfl, Nat.le_of_ble_eq_true rfl⟩) ⟨fun a U g mk q => q, fun U hU hW => ⟨rfl, trivial⟩⟩ rfl rfl hl.1 rfl (lv_room (Nat.le_of_ble_eq_true rfl)) dX7_place_33 ⟨Nat.le_of_ble_eq_true rfl, Nat.le_of_ble_eq_true rfl⟩).run (fun r hr33 => ?_)
      obtain rfl := hr33
      refine lv_goto (tgt := 40) hx hb dX7_place_36 (by decide) ?_
      exact W.iret (v := (zI (pm ((G) (i.toNat)) (j.toNat)))) hx hb hr (fun tq ht hW => ⟨_, rfl, by rw [sp_place, if_pos (by omega)], ht⟩) (fun q h => by cases h) dX7_place_40

-- the check: X7_open
set_option maxHeartbeats 4000000 in
set_option maxRecDepth 100000 in
theorem c_X7_open (l : Launch) (D : va_G) (t : Nat → ClassId) (y : Nat) (b : Nat → Nat) (R : Nat) (fm kn pm0 lm : Int) (F G : Nat → Nat) (gV : RV R F G) (i j : Int) (gi : -2147483648 ≤ i ∧ i < 2147483648) (gj : -2147483648 ≤ j ∧ j < 2147483648) : Met l yX7_open wsX7_open ({ frames := 2, cells := 0, slots := 0, locals := 47 }) (va_Pc [.ref y, .int (zI (i)), .int (zI (j))] (fun U => va_P D vwCl ([oM y b (((R : Nat) : Int)) (fm) (kn) (pm0) (lm), aI t (b 0) 24 (cN F), aJ t (b 1) 24 (G)]) U.heap ∧ va_K D vwCl (TY t) U)) (vp_Si (fun r => r = zI (sp_open R F G i j))) 0 0 (fun _ => False) := by
  refine Met.ofW (cc := cX7_open) (maxL := 3) (ret := (some .int)) (by decide) rfl ?_
  intro p e s m args below meth c s₁ B hml hv
  obtain ⟨rfl, hP, hK⟩ := hv
  have hx := B.exec
  have hb := B.bytes
  have hr := B.returns
  have hts := atoms_spec (ws := wsX7_open) B.pre
  have hown : s.vm.findClass RX7 = some m.cls := findClass_of_methodNamed B.named
  have hlocks := B.notSynchronized
  have hl := lv_entry ([.ref y, .int (zI (i)), .int (zI (j))]) (n := 3) (Nat.le_of_ble_eq_true rfl)
  rw [lg_entry_eq]
  generalize (lg_sl ([.ref y, .int (zI (i)), .int (zI (j))]) ++ List.replicate (3 - (lg_sl ([.ref y, .int (zI (i)), .int (zI (j))])).length) Slot.unset).toArray = ls at hl ⊢
  have hl : lv_has ls 3 [(0, .ref y), (1, .int (zI (i))), (2, .int (zI (j)))] := hl
  have iX7 : ∀ w ∈ u_ws RX7 TX7 16, w ∈ wsX7_open := by decide +kernel
  have gR := gV.1
  refine lv_aload_n hx hb dX7_open_0 rfl (lv_at hl 0 rfl) ?_
  refine lv_iload_n hx hb dX7_open_1 rfl (lv_at hl 1 rfl) ?_
  have hPc := hP.sub (ws' := [oM y b (((R : Nat) : Int)) (fm) (kn) (pm0) (lm)]) [0] rfl
  refine vp_callSi (va_runV (As := [.int (zI (i))]) (rest := []) ⟨hx, hb, hml, hown, hts⟩ (c_X7_is l D t y b R fm kn pm0 lm gV.1 i gi) (cwV 1 hts gX7_open_X7_is rfl rfl rfl (by decide +kernel) ⟨Nat.le_of_ble_eq_true rfl, Nat.le_of_ble_eq_true rfl⟩) ⟨fun a U g mk q => ⟨q.1, q.2.1, va_K.moved (u := U) (U := U.calling g mk a) (Vm.Alike.refl U.vm) q.2.2⟩, va_recv hK hPc (ci := 6) (q0 := 0) rfl rfl, fun U hU hW => ⟨rfl, by rw [hU]; exact hPc, va_K.moved hW.alike hK⟩⟩ rfl rfl hl.1 rfl (lv_room (Nat.le_of_ble_eq_true rfl)) dX7_open_2 ⟨Nat.le_of_ble_eq_true rfl, Nat.le_of_ble_eq_true rfl⟩).run (fun r hr2 => ?_)
  obtain rfl := hr2
  refine z_ifb_eq (P := inR R (i)) (tgt := 45) hx hb dX7_open_5 (by decide) (fun c5 => ?_) (fun c5 => ?_)
  · refine lv_sipush (v := zI 1000) hx hb dX7_open_45 (by decide +kernel) ?_
    exact W.iret (v := (zI (1000))) hx hb hr (fun tq ht hW => ⟨_, rfl, by rw [sp_open, if_neg (fun z => c5 z.1)], ht⟩) (fun q h => by cases h) dX7_open_48
  · have h1 := RV_at gV c5
    refine lv_iload_n hx hb dX7_open_8 rfl (lv_at hl 2 rfl) ?_
    refine z_i2l hx hb (by omega) dX7_open_9 ?_
    refine lv_lconst (v := lN 0) hx hb dX7_open_10 rfl ?_
    refine lv_aload_n hx hb dX7_open_11 rfl (lv_at hl 0 rfl) ?_
    refine va_get (D := D) (ci := 6) (v := .ref (b 0)) (C := RX7) (T := TX7) (N := 16) hx hb hts iX7 hown hK hP 0 rfl rfl 1 (by decide) (hts (.fieldLink RX7 7 "CancelRowsModel" "lengths" "[I") (by decide +kernel)) (fun _ h9 => h9) rfl dX7_open_12 ?_
    refine lv_iload_n hx hb dX7_open_15 rfl (lv_at hl 1 rfl) ?_
    refine z_iald hx hb hK hP 1 0 rfl rfl (i.toNat) (by omega) (by omega) (by omega) dX7_open_16 ?_
    refine z_re (e2 := ((F (i.toNat) : Nat) : Int)) (rfl) ?_
    refine lv_iconst (v := zI 1) hx hb dX7_open_17 rfl ?_
    refine z_isub hx hb dX7_open_18 ?_
    refine z_i2l hx hb (by omega) dX7_open_19 ?_
    refine vp_callSi (va_runS (As := [.long (zL (j)), .long (lN (0)), .long (zL ((((F (i.toNat) : Nat) : Int)) - (1)))]) (rest := []) ⟨hx, hb, hml, hown, hts⟩ (c_X7_in l _ _ _) (va_cwS 3 hts gX7_open_X7_in rfl rfl rfl (by decide +kernel) ⟨Nat.le_of_ble_eq_true rfl, Nat.le_of_ble_eq_true rfl⟩) ⟨fun a U g mk q => q, fun U hU hW => ⟨rfl, trivial⟩⟩ rfl rfl hl.1 rfl (lv_room (Nat.le_of_ble_eq_true rfl)) dX7_open_20 ⟨Nat.le_of_ble_eq_true rfl, Nat.le_of_ble_eq_true rfl⟩).run (fun r hr20 => ?_)
    have hq20 : r = zI (bP (((0 : Nat) : Int) ≤ j ∧ j ≤ (((F (i.toNat) : Nat) : Int)) - (1))) := by rw [hr20]; exact congrArg zI (bP_cg (by simp only [zL_toInt (e := j) (by omega), lN_toI (n := 0) (by omega), zL_toInt (e := (((F (i.toNat) : Nat) : Int)) - (1)) (by omega)]))
    obtain rfl := hq20
    refine z_ifb_eq (P := ((0 : Nat) : Int) ≤ j ∧ j ≤ (((F (i.toNat) : Nat) : Int)) - (1)) (tgt := 45) hx hb dX7_open_23 (by decide) (fun c23 => ?_) (fun c23 => ?_)
    · refine lv_sipush (v := zI 1000) hx hb dX7_open_45 (by decide +kernel) ?_
      exact W.iret (v := (zI (1000))) hx hb hr (fun tq ht hW => ⟨_, rfl, by rw [sp_open, if_neg (fun z => c23 (by omega))], ht⟩) (fun q h => by cases h) dX7_open_48
    · refine lv_aload_n hx hb dX7_open_26 rfl (lv_at hl 0 rfl) ?_
      refine va_get (D := D) (ci := 6) (v := .ref (b 0)) (C := RX7) (T := TX7) (N := 16) hx hb hts iX7 hown hK hP 0 rfl rfl 1 (by decide) (hts (.fieldLink RX7 7 "CancelRowsModel" "lengths" "[I") (by decide +kernel)) (fun _ h9 => h9) rfl dX7_open_27 ?_
      refine lv_iload_n hx hb dX7_open_30 rfl (lv_at hl 1 rfl) ?_
      refine z_iald hx hb hK hP 1 0 rfl rfl (i.toNat) (by omega) (by omega) (by omega) dX7_open_31 ?_
      refine z_re (e2 := ((F (i.toNat) : Nat) : Int)) (rfl) ?_
      refine lv_aload_n hx hb dX7_open_32 rfl (lv_at hl 0 rfl) ?_
      refine va_get (D := D) (ci := 6) (v := .ref (b 1)) (C := RX7) (T := TX7) (N := 16) hx hb hts iX7 hown hK hP 0 rfl rfl 2 (by decide) (hts (.fieldLink RX7 13 "CancelRowsModel" "numbers" "[J") (by decide +kernel)) (fun _ h9 => h9) rfl dX7_open_33 ?_
      refine lv_iload_n hx hb dX7_open_36 rfl (lv_at hl 1 rfl) ?_
      refine l_lald hx hb hK hP 2 1 rfl rfl (i.toNat) (by omega) (by omega) (by omega) dX7_open_37 ?_
      refine lv_iload_n hx hb dX7_open_38 rfl (lv_at hl 2 rfl) ?_
      refine z_re (e2 := ((j.toNat : Nat) : Int)) (by omega) ?_
      refine vp_callSi (va_runS (As := [.int (zI (((F (i.toNat) : Nat) : Int))), .long (lN ((G) (i.toNat))), .int (zI (((j.toNat : Nat) : Int)))]) (rest := []) ⟨hx, hb, hml, hown, hts⟩ (c_X7_openOf l (F i.toNat) (G i.toNat) j.toNat h1.2.1 (lt32 h1.2.2 h1.2.1) (by omega)) (va_cwS 3 hts gX7_open_X7_openOf rfl rfl rfl (by decide +kernel) ⟨Nat.le_of_ble_eq_true rfl, Nat.le_of_ble_eq_true rfl⟩) ⟨fun a U g mk q => q, fun U hU hW => ⟨rfl, trivial⟩⟩ rfl rfl hl.1 rfl (lv_room (Nat.le_of_ble_eq_true rfl)) dX7_open_39 ⟨Nat.le_of_ble_eq_true rfl, Nat.le_of_ble_eq_true rfl⟩).run (fun r hr39 => ?_)
      obtain rfl := hr39
      refine lv_goto (tgt := 48) hx hb dX7_open_42 (by decide) ?_
      exact W.iret (v := (zI (oS (F (i.toNat)) ((G) (i.toNat)) (j.toNat)))) hx hb hr (fun tq ht hW => ⟨_, rfl, by rw [sp_open, if_pos (by omega)], ht⟩) (fun q h => by cases h) dX7_open_48

-- the check: X7_round
set_option maxHeartbeats 4000000 in
set_option maxRecDepth 100000 in
theorem c_X7_round (l : Launch) (D : va_G) (t : Nat → ClassId) (y : Nat) (b : Nat → Nat) (R : Nat) (fm kn pm0 lm : Int) (F G : Nat → Nat) (gV : RV R F G) (i j : Int) (gi : -2147483648 ≤ i ∧ i < 2147483648) (gj : -2147483648 ≤ j ∧ j < 2147483648) : Met l yX7_round wsX7_round ({ frames := 2, cells := 0, slots := 0, locals := 47 }) (va_Pc [.ref y, .int (zI (i)), .int (zI (j))] (fun U => va_P D vwCl ([oM y b (((R : Nat) : Int)) (fm) (kn) (pm0) (lm), aI t (b 0) 24 (cN F), aJ t (b 1) 24 (G)]) U.heap ∧ va_K D vwCl (TY t) U)) (vp_Si (fun r => r = zI (sp_round R F G i j))) 0 0 (fun _ => False) := by
  refine Met.ofW (cc := cX7_round) (maxL := 3) (ret := (some .int)) (by decide) rfl ?_
  intro p e s m args below meth c s₁ B hml hv
  obtain ⟨rfl, hP, hK⟩ := hv
  have hx := B.exec
  have hb := B.bytes
  have hr := B.returns
  have hts := atoms_spec (ws := wsX7_round) B.pre
  have hown : s.vm.findClass RX7 = some m.cls := findClass_of_methodNamed B.named
  have hlocks := B.notSynchronized
  have hl := lv_entry ([.ref y, .int (zI (i)), .int (zI (j))]) (n := 3) (Nat.le_of_ble_eq_true rfl)
  rw [lg_entry_eq]
  generalize (lg_sl ([.ref y, .int (zI (i)), .int (zI (j))]) ++ List.replicate (3 - (lg_sl ([.ref y, .int (zI (i)), .int (zI (j))])).length) Slot.unset).toArray = ls at hl ⊢
  have hl : lv_has ls 3 [(0, .ref y), (1, .int (zI (i))), (2, .int (zI (j)))] := hl
  have iX7 : ∀ w ∈ u_ws RX7 TX7 16, w ∈ wsX7_round := by decide +kernel
  have gR := gV.1
  refine lv_aload_n hx hb dX7_round_0 rfl (lv_at hl 0 rfl) ?_
  refine lv_iload_n hx hb dX7_round_1 rfl (lv_at hl 1 rfl) ?_
  have hPc := hP.sub (ws' := [oM y b (((R : Nat) : Int)) (fm) (kn) (pm0) (lm)]) [0] rfl
  refine vp_callSi (va_runV (As := [.int (zI (i))]) (rest := []) ⟨hx, hb, hml, hown, hts⟩ (c_X7_is l D t y b R fm kn pm0 lm gV.1 i gi) (cwV 1 hts gX7_round_X7_is rfl rfl rfl (by decide +kernel) ⟨Nat.le_of_ble_eq_true rfl, Nat.le_of_ble_eq_true rfl⟩) ⟨fun a U g mk q => ⟨q.1, q.2.1, va_K.moved (u := U) (U := U.calling g mk a) (Vm.Alike.refl U.vm) q.2.2⟩, va_recv hK hPc (ci := 6) (q0 := 0) rfl rfl, fun U hU hW => ⟨rfl, by rw [hU]; exact hPc, va_K.moved hW.alike hK⟩⟩ rfl rfl hl.1 rfl (lv_room (Nat.le_of_ble_eq_true rfl)) dX7_round_2 ⟨Nat.le_of_ble_eq_true rfl, Nat.le_of_ble_eq_true rfl⟩).run (fun r hr2 => ?_)
  obtain rfl := hr2
  refine z_ifb_eq (P := inR R (i)) (tgt := 45) hx hb dX7_round_5 (by decide) (fun c5 => ?_) (fun c5 => ?_)
  · refine lv_sipush (v := zI 1000) hx hb dX7_round_45 (by decide +kernel) ?_
    exact W.iret (v := (zI (1000))) hx hb hr (fun tq ht hW => ⟨_, rfl, by rw [sp_round, if_neg (fun z => c5 z.1)], ht⟩) (fun q h => by cases h) dX7_round_48
  · have h1 := RV_at gV c5
    refine lv_iload_n hx hb dX7_round_8 rfl (lv_at hl 2 rfl) ?_
    refine z_i2l hx hb (by omega) dX7_round_9 ?_
    refine lv_lconst (v := lN 0) hx hb dX7_round_10 rfl ?_
    refine lv_aload_n hx hb dX7_round_11 rfl (lv_at hl 0 rfl) ?_
    refine va_get (D := D) (ci := 6) (v := .ref (b 0)) (C := RX7) (T := TX7) (N := 16) hx hb hts iX7 hown hK hP 0 rfl rfl 1 (by decide) (hts (.fieldLink RX7 7 "CancelRowsModel" "lengths" "[I") (by decide +kernel)) (fun _ h9 => h9) rfl dX7_round_12 ?_
    refine lv_iload_n hx hb dX7_round_15 rfl (lv_at hl 1 rfl) ?_
    refine z_iald hx hb hK hP 1 0 rfl rfl (i.toNat) (by omega) (by omega) (by omega) dX7_round_16 ?_
    refine z_re (e2 := ((F (i.toNat) : Nat) : Int)) (rfl) ?_
    refine lv_iconst (v := zI 1) hx hb dX7_round_17 rfl ?_
    refine z_isub hx hb dX7_round_18 ?_
    refine z_i2l hx hb (by omega) dX7_round_19 ?_
    refine vp_callSi (va_runS (As := [.long (zL (j)), .long (lN (0)), .long (zL ((((F (i.toNat) : Nat) : Int)) - (1)))]) (rest := []) ⟨hx, hb, hml, hown, hts⟩ (c_X7_in l _ _ _) (va_cwS 3 hts gX7_round_X7_in rfl rfl rfl (by decide +kernel) ⟨Nat.le_of_ble_eq_true rfl, Nat.le_of_ble_eq_true rfl⟩) ⟨fun a U g mk q => q, fun U hU hW => ⟨rfl, trivial⟩⟩ rfl rfl hl.1 rfl (lv_room (Nat.le_of_ble_eq_true rfl)) dX7_round_20 ⟨Nat.le_of_ble_eq_true rfl, Nat.le_of_ble_eq_true rfl⟩).run (fun r hr20 => ?_)
    have hq20 : r = zI (bP (((0 : Nat) : Int) ≤ j ∧ j ≤ (((F (i.toNat) : Nat) : Int)) - (1))) := by rw [hr20]; exact congrArg zI (bP_cg (by simp only [zL_toInt (e := j) (by omega), lN_toI (n := 0) (by omega), zL_toInt (e := (((F (i.toNat) : Nat) : Int)) - (1)) (by omega)]))
    obtain rfl := hq20
    refine z_ifb_eq (P := ((0 : Nat) : Int) ≤ j ∧ j ≤ (((F (i.toNat) : Nat) : Int)) - (1)) (tgt := 45) hx hb dX7_round_23 (by decide) (fun c23 => ?_) (fun c23 => ?_)
    · refine lv_sipush (v := zI 1000) hx hb dX7_round_45 (by decide +kernel) ?_
      exact W.iret (v := (zI (1000))) hx hb hr (fun tq ht hW => ⟨_, rfl, by rw [sp_round, if_neg (fun z => c23 (by omega))], ht⟩) (fun q h => by cases h) dX7_round_48
    · refine lv_aload_n hx hb dX7_round_26 rfl (lv_at hl 0 rfl) ?_
      refine va_get (D := D) (ci := 6) (v := .ref (b 0)) (C := RX7) (T := TX7) (N := 16) hx hb hts iX7 hown hK hP 0 rfl rfl 1 (by decide) (hts (.fieldLink RX7 7 "CancelRowsModel" "lengths" "[I") (by decide +kernel)) (fun _ h9 => h9) rfl dX7_round_27 ?_
      refine lv_iload_n hx hb dX7_round_30 rfl (lv_at hl 1 rfl) ?_
      refine z_iald hx hb hK hP 1 0 rfl rfl (i.toNat) (by omega) (by omega) (by omega) dX7_round_31 ?_
      refine z_re (e2 := ((F (i.toNat) : Nat) : Int)) (rfl) ?_
      refine lv_aload_n hx hb dX7_round_32 rfl (lv_at hl 0 rfl) ?_
      refine va_get (D := D) (ci := 6) (v := .ref (b 1)) (C := RX7) (T := TX7) (N := 16) hx hb hts iX7 hown hK hP 0 rfl rfl 2 (by decide) (hts (.fieldLink RX7 13 "CancelRowsModel" "numbers" "[J") (by decide +kernel)) (fun _ h9 => h9) rfl dX7_round_33 ?_
      refine lv_iload_n hx hb dX7_round_36 rfl (lv_at hl 1 rfl) ?_
      refine l_lald hx hb hK hP 2 1 rfl rfl (i.toNat) (by omega) (by omega) (by omega) dX7_round_37 ?_
      refine lv_iload_n hx hb dX7_round_38 rfl (lv_at hl 2 rfl) ?_
      refine z_re (e2 := ((j.toNat : Nat) : Int)) (by omega) ?_
      refine vp_callSi (va_runS (As := [.int (zI (((F (i.toNat) : Nat) : Int))), .long (lN ((G) (i.toNat))), .int (zI (((j.toNat : Nat) : Int)))]) (rest := []) ⟨hx, hb, hml, hown, hts⟩ (c_X7_roundOf l (F i.toNat) (G i.toNat) j.toNat h1.2.1 (lt32 h1.2.2 h1.2.1) (by omega)) (va_cwS 3 hts gX7_round_X7_roundOf rfl rfl rfl (by decide +kernel) ⟨Nat.le_of_ble_eq_true rfl, Nat.le_of_ble_eq_true rfl⟩) ⟨fun a U g mk q => q, fun U hU hW => ⟨rfl, trivial⟩⟩ rfl rfl hl.1 rfl (lv_room (Nat.le_of_ble_eq_true rfl)) dX7_round_39 ⟨Nat.le_of_ble_eq_true rfl, Nat.le_of_ble_eq_true rfl⟩).run (fun r hr39 => ?_)
      obtain rfl := hr39
      refine lv_goto (tgt := 48) hx hb dX7_round_42 (by decide) ?_
      exact W.iret (v := (zI (rS (F (i.toNat)) ((G) (i.toNat)) (j.toNat)))) hx hb hr (fun tq ht hW => ⟨_, rfl, by rw [sp_round, if_pos (by omega)], ht⟩) (fun q h => by cases h) dX7_round_48

-- the check: cancels
set_option maxHeartbeats 4000000 in
set_option maxRecDepth 100000 in
theorem c_X7_cancels (l : Launch) (D : va_G) (t : Nat → ClassId) (y : Nat) (b : Nat → Nat) (R : Nat) (fm kn pm0 lm : Int) (F G : Nat → Nat) (gV : RV R F G) (i j : Int) (gi : -2147483648 ≤ i ∧ i < 2147483648) (gj : -2147483648 ≤ j ∧ j < 2147483648) : Met l yX7_cancels wsX7_cancels ({ frames := 3, cells := 0, slots := 0, locals := 72 }) (va_Pc [.ref y, .int (zI (i)), .int (zI (j))] (fun U => va_P D vwCl ([oM y b (((R : Nat) : Int)) (fm) (kn) (pm0) (lm), aI t (b 0) 24 (cN F), aJ t (b 1) 24 (G)]) U.heap ∧ va_K D vwCl (TY t) U)) (vp_Si (fun r => r = zI (sp_cancels R F G i j))) 0 0 (fun _ => False) := by
  refine Met.ofW (cc := cX7_cancels) (maxL := 3) (ret := (some .int)) (by decide) rfl ?_
  intro p e s m args below meth c s₁ B hml hv
  obtain ⟨rfl, hP, hK⟩ := hv
  have hx := B.exec
  have hb := B.bytes
  have hr := B.returns
  have hts := atoms_spec (ws := wsX7_cancels) B.pre
  have hown : s.vm.findClass RX7 = some m.cls := findClass_of_methodNamed B.named
  have hlocks := B.notSynchronized
  have hl := lv_entry ([.ref y, .int (zI (i)), .int (zI (j))]) (n := 3) (Nat.le_of_ble_eq_true rfl)
  rw [lg_entry_eq]
  generalize (lg_sl ([.ref y, .int (zI (i)), .int (zI (j))]) ++ List.replicate (3 - (lg_sl ([.ref y, .int (zI (i)), .int (zI (j))])).length) Slot.unset).toArray = ls at hl ⊢
  have hl : lv_has ls 3 [(0, .ref y), (1, .int (zI (i))), (2, .int (zI (j)))] := hl
  have iX7 : ∀ w ∈ u_ws RX7 TX7 16, w ∈ wsX7_cancels := by decide +kernel
  have gR := gV.1
  refine lv_aload_n hx hb dX7_cancels_0 rfl (lv_at hl 0 rfl) ?_
  refine lv_iload_n hx hb dX7_cancels_1 rfl (lv_at hl 1 rfl) ?_
  refine lv_iload_n hx hb dX7_cancels_2 rfl (lv_at hl 2 rfl) ?_
  have hPc := hP.sub (ws' := [oM y b (((R : Nat) : Int)) (fm) (kn) (pm0) (lm), aI t (b 0) 24 (cN F)]) [0, 1] rfl
  refine vp_callSi (va_runV (As := [.int (zI (i)), .int (zI (j))]) (rest := []) ⟨hx, hb, hml, hown, hts⟩ (c_X7_areLike l D t y b R fm kn pm0 lm F G gV i j gi gj) (cwV 2 hts gX7_cancels_X7_areLike rfl rfl rfl (by decide +kernel) ⟨Nat.le_of_ble_eq_true rfl, Nat.le_of_ble_eq_true rfl⟩) ⟨fun a U g mk q => ⟨q.1, q.2.1, va_K.moved (u := U) (U := U.calling g mk a) (Vm.Alike.refl U.vm) q.2.2⟩, va_recv hK hPc (ci := 6) (q0 := 0) rfl rfl, fun U hU hW => ⟨rfl, by rw [hU]; exact hPc, va_K.moved hW.alike hK⟩⟩ rfl rfl hl.1 rfl (lv_room (Nat.le_of_ble_eq_true rfl)) dX7_cancels_3 ⟨Nat.le_of_ble_eq_true rfl, Nat.le_of_ble_eq_true rfl⟩).run (fun r hr3 => ?_)
  obtain rfl := hr3
  refine z_ifb_eq (P := inR R (i) ∧ inR R (j) ∧ F (i).toNat = F (j).toNat) (tgt := 33) hx hb dX7_cancels_6 (by decide) (fun c6 => ?_) (fun c6 => ?_)
  · refine lv_iconst (v := zI (-1)) hx hb dX7_cancels_33 rfl ?_
    exact W.iret (v := (zI ((-1)))) hx hb hr (fun tq ht hW => ⟨_, rfl, by rw [sp_cancels, if_neg c6], ht⟩) (fun q h => by cases h) dX7_cancels_34
  · have h1 := RV_at gV c6.1
    have h2 := RV_at gV c6.2.1
    refine lv_aload_n hx hb dX7_cancels_9 rfl (lv_at hl 0 rfl) ?_
    refine va_get (D := D) (ci := 6) (v := .ref (b 0)) (C := RX7) (T := TX7) (N := 16) hx hb hts iX7 hown hK hP 0 rfl rfl 1 (by decide) (hts (.fieldLink RX7 7 "CancelRowsModel" "lengths" "[I") (by decide +kernel)) (fun _ h9 => h9) rfl dX7_cancels_10 ?_
    refine lv_iload_n hx hb dX7_cancels_13 rfl (lv_at hl 1 rfl) ?_
    refine z_iald hx hb hK hP 1 0 rfl rfl (i.toNat) (by omega) (by omega) (by omega) dX7_cancels_14 ?_
    refine z_re (e2 := ((F (i.toNat) : Nat) : Int)) (rfl) ?_
    refine lv_aload_n hx hb dX7_cancels_15 rfl (lv_at hl 0 rfl) ?_
    refine va_get (D := D) (ci := 6) (v := .ref (b 1)) (C := RX7) (T := TX7) (N := 16) hx hb hts iX7 hown hK hP 0 rfl rfl 2 (by decide) (hts (.fieldLink RX7 13 "CancelRowsModel" "numbers" "[J") (by decide +kernel)) (fun _ h9 => h9) rfl dX7_cancels_16 ?_
    refine lv_iload_n hx hb dX7_cancels_19 rfl (lv_at hl 1 rfl) ?_
    refine l_lald hx hb hK hP 2 1 rfl rfl (i.toNat) (by omega) (by omega) (by omega) dX7_cancels_20 ?_
    refine lv_aload_n hx hb dX7_cancels_21 rfl (lv_at hl 0 rfl) ?_
    refine va_get (D := D) (ci := 6) (v := .ref (b 1)) (C := RX7) (T := TX7) (N := 16) hx hb hts iX7 hown hK hP 0 rfl rfl 2 (by decide) (hts (.fieldLink RX7 13 "CancelRowsModel" "numbers" "[J") (by decide +kernel)) (fun _ h9 => h9) rfl dX7_cancels_22 ?_
    refine lv_iload_n hx hb dX7_cancels_25 rfl (lv_at hl 2 rfl) ?_
    refine l_lald hx hb hK hP 2 1 rfl rfl (j.toNat) (by omega) (by omega) (by omega) dX7_cancels_26 ?_
    refine vp_callSi (va_runS (As := [.int (zI (((F (i.toNat) : Nat) : Int))), .long (lN ((G) (i.toNat))), .long (lN ((G) (j.toNat)))]) (rest := []) ⟨hx, hb, hml, hown, hts⟩ (c_X7_cancelOf l (F i.toNat) (G i.toNat) (G j.toNat) h1.2.1 h1.1 (lt32 h1.2.2 h1.2.1) (lt32 h2.2.2 h2.2.1)) (va_cwS 3 hts gX7_cancels_X7_cancelOf rfl rfl rfl (by decide +kernel) ⟨Nat.le_of_ble_eq_true rfl, Nat.le_of_ble_eq_true rfl⟩) ⟨fun a U g mk q => q, fun U hU hW => ⟨rfl, trivial⟩⟩ rfl rfl hl.1 rfl (lv_room (Nat.le_of_ble_eq_true rfl)) dX7_cancels_27 ⟨Nat.le_of_ble_eq_true rfl, Nat.le_of_ble_eq_true rfl⟩).run (fun r hr27 => ?_)
    obtain rfl := hr27
    refine lv_goto (tgt := 34) hx hb dX7_cancels_30 (by decide) ?_
    exact W.iret (v := (zI (((ff (fun k => oS (F (i.toNat)) ((G) (i.toNat)) k + oS (F (i.toNat)) ((G) (j.toNat)) k) 1 ((F (i.toNat)) - 1) : Nat) : Int)))) hx hb hr (fun tq ht hW => ⟨_, rfl, by rw [sp_cancels, if_pos c6], ht⟩) (fun q h => by cases h) dX7_cancels_34

-- the check: four
set_option maxHeartbeats 4000000 in
set_option maxRecDepth 100000 in
theorem c_X7_four (l : Launch) (D : va_G) (t : Nat → ClassId) (y : Nat) (b : Nat → Nat) (R : Nat) (fm kn pm0 lm : Int) (F G : Nat → Nat) (gV : RV R F G) (i j i2 j2 : Int) (gi : -2147483648 ≤ i ∧ i < 2147483648) (gj : -2147483648 ≤ j ∧ j < 2147483648) (gi2 : -2147483648 ≤ i2 ∧ i2 < 2147483648) (gj2 : -2147483648 ≤ j2 ∧ j2 < 2147483648) : Met l yX7_four wsX7_four ({ frames := 3, cells := 0, slots := 0, locals := 68 }) (va_Pc [.ref y, .int (zI (i)), .int (zI (j)), .int (zI (i2)), .int (zI (j2))] (fun U => va_P D vwCl ([oM y b (((R : Nat) : Int)) (fm) (kn) (pm0) (lm), aI t (b 0) 24 (cN F), aJ t (b 1) 24 (G)]) U.heap ∧ va_K D vwCl (TY t) U)) (vp_Si (fun r => r = zI (sp_four R F G i j i2 j2))) 0 0 (fun _ => False) := by
  refine Met.ofW (cc := cX7_four) (maxL := 7) (ret := (some .int)) (by decide) rfl ?_
  intro p e s m args below meth c s₁ B hml hv
  obtain ⟨rfl, hP, hK⟩ := hv
  have hx := B.exec
  have hb := B.bytes
  have hr := B.returns
  have hts := atoms_spec (ws := wsX7_four) B.pre
  have hown : s.vm.findClass RX7 = some m.cls := findClass_of_methodNamed B.named
  have hlocks := B.notSynchronized
  have hl := lv_entry ([.ref y, .int (zI (i)), .int (zI (j)), .int (zI (i2)), .int (zI (j2))]) (n := 7) (Nat.le_of_ble_eq_true rfl)
  rw [lg_entry_eq]
  generalize (lg_sl ([.ref y, .int (zI (i)), .int (zI (j)), .int (zI (i2)), .int (zI (j2))]) ++ List.replicate (7 - (lg_sl ([.ref y, .int (zI (i)), .int (zI (j)), .int (zI (i2)), .int (zI (j2))])).length) Slot.unset).toArray = ls at hl ⊢
  have hl : lv_has ls 7 [(0, .ref y), (1, .int (zI (i))), (2, .int (zI (j))), (3, .int (zI (i2))), (4, .int (zI (j2)))] := hl
  have iX7 : ∀ w ∈ u_ws RX7 TX7 16, w ∈ wsX7_four := by decide +kernel
  have gR := gV.1
  refine lv_aload_n hx hb dX7_four_0 rfl (lv_at hl 0 rfl) ?_
  refine lv_iload_n hx hb dX7_four_1 rfl (lv_at hl 1 rfl) ?_
  refine lv_iload_n hx hb dX7_four_2 rfl (lv_at hl 2 rfl) ?_
  have hPc := hP.sub (ws' := [oM y b (((R : Nat) : Int)) (fm) (kn) (pm0) (lm), aI t (b 0) 24 (cN F)]) [0, 1] rfl
  refine vp_callSi (va_runV (As := [.int (zI (i)), .int (zI (j))]) (rest := []) ⟨hx, hb, hml, hown, hts⟩ (c_X7_areLike l D t y b R fm kn pm0 lm F G gV i j gi gj) (cwV 2 hts gX7_four_X7_areLike rfl rfl rfl (by decide +kernel) ⟨Nat.le_of_ble_eq_true rfl, Nat.le_of_ble_eq_true rfl⟩) ⟨fun a U g mk q => ⟨q.1, q.2.1, va_K.moved (u := U) (U := U.calling g mk a) (Vm.Alike.refl U.vm) q.2.2⟩, va_recv hK hPc (ci := 6) (q0 := 0) rfl rfl, fun U hU hW => ⟨rfl, by rw [hU]; exact hPc, va_K.moved hW.alike hK⟩⟩ rfl rfl hl.1 rfl (lv_room (Nat.le_of_ble_eq_true rfl)) dX7_four_3 ⟨Nat.le_of_ble_eq_true rfl, Nat.le_of_ble_eq_true rfl⟩).run (fun r hr3 => ?_)
  obtain rfl := hr3
  refine z_ifb_eq (P := inR R (i) ∧ inR R (j) ∧ F (i).toNat = F (j).toNat) (tgt := 28) hx hb dX7_four_6 (by decide) (fun c6 => ?_) (fun c6 => ?_)
  · refine lv_iconst (v := zI (-1)) hx hb dX7_four_28 rfl ?_
    exact W.iret (v := (zI ((-1)))) hx hb hr (fun tq ht hW => ⟨_, rfl, by rw [sp_four, if_neg (fun z => c6 z.1)], ht⟩) (fun q h => by cases h) dX7_four_29
  · refine lv_aload_n hx hb dX7_four_9 rfl (lv_at hl 0 rfl) ?_
    refine lv_iload_n hx hb dX7_four_10 rfl (lv_at hl 1 rfl) ?_
    refine lv_iload_n hx hb dX7_four_11 rfl (lv_at hl 3 rfl) ?_
    have hPc := hP.sub (ws' := [oM y b (((R : Nat) : Int)) (fm) (kn) (pm0) (lm), aI t (b 0) 24 (cN F)]) [0, 1] rfl
    refine vp_callSi (va_runV (As := [.int (zI (i)), .int (zI (i2))]) (rest := []) ⟨hx, hb, hml, hown, hts⟩ (c_X7_areLike l D t y b R fm kn pm0 lm F G gV i i2 gi gi2) (cwV 2 hts gX7_four_X7_areLike rfl rfl rfl (by decide +kernel) ⟨Nat.le_of_ble_eq_true rfl, Nat.le_of_ble_eq_true rfl⟩) ⟨fun a U g mk q => ⟨q.1, q.2.1, va_K.moved (u := U) (U := U.calling g mk a) (Vm.Alike.refl U.vm) q.2.2⟩, va_recv hK hPc (ci := 6) (q0 := 0) rfl rfl, fun U hU hW => ⟨rfl, by rw [hU]; exact hPc, va_K.moved hW.alike hK⟩⟩ rfl rfl hl.1 rfl (lv_room (Nat.le_of_ble_eq_true rfl)) dX7_four_12 ⟨Nat.le_of_ble_eq_true rfl, Nat.le_of_ble_eq_true rfl⟩).run (fun r hr12 => ?_)
    obtain rfl := hr12
    refine z_ifb_eq (P := inR R (i) ∧ inR R (i2) ∧ F (i).toNat = F (i2).toNat) (tgt := 28) hx hb dX7_four_15 (by decide) (fun c15 => ?_) (fun c15 => ?_)
    · refine lv_iconst (v := zI (-1)) hx hb dX7_four_28 rfl ?_
      exact W.iret (v := (zI ((-1)))) hx hb hr (fun tq ht hW => ⟨_, rfl, by rw [sp_four, if_neg (fun z => c15 ⟨z.1.1, z.2.1.2.1, z.1.2.2.trans z.2.1.2.2⟩)], ht⟩) (fun q h => by cases h) dX7_four_29
    · refine lv_aload_n hx hb dX7_four_18 rfl (lv_at hl 0 rfl) ?_
      refine lv_iload_n hx hb dX7_four_19 rfl (lv_at hl 1 rfl) ?_
      refine lv_iload hx hb dX7_four_20 (lv_at hl 4 rfl) ?_
      have hPc := hP.sub (ws' := [oM y b (((R : Nat) : Int)) (fm) (kn) (pm0) (lm), aI t (b 0) 24 (cN F)]) [0, 1] rfl
      refine vp_callSi (va_runV (As := [.int (zI (i)), .int (zI (j2))]) (rest := []) ⟨hx, hb, hml, hown, hts⟩ (c_X7_areLike l D t y b R fm kn pm0 lm F G gV i j2 gi gj2) (cwV 2 hts gX7_four_X7_areLike rfl rfl rfl (by decide +kernel) ⟨Nat.le_of_ble_eq_true rfl, Nat.le_of_ble_eq_true rfl⟩) ⟨fun a U g mk q => ⟨q.1, q.2.1, va_K.moved (u := U) (U := U.calling g mk a) (Vm.Alike.refl U.vm) q.2.2⟩, va_recv hK hPc (ci := 6) (q0 := 0) rfl rfl, fun U hU hW => ⟨rfl, by rw [hU]; exact hPc, va_K.moved hW.alike hK⟩⟩ rfl rfl hl.1 rfl (lv_room (Nat.le_of_ble_eq_true rfl)) dX7_four_22 ⟨Nat.le_of_ble_eq_true rfl, Nat.le_of_ble_eq_true rfl⟩).run (fun r hr22 => ?_)
      obtain rfl := hr22
      refine z_ifb_ne (P := inR R (i) ∧ inR R (j2) ∧ F (i).toNat = F (j2).toNat) (tgt := 30) hx hb dX7_four_25 (by decide) (fun c25 => ?_) (fun c25 => ?_)
      · have h1 := RV_at gV c6.1
        have h2 := RV_at gV c6.2.1
        have h3 := RV_at gV c15.2.1
        have h4 := RV_at gV c25.2.1
        have hq : lk R F i j ∧ lk R F j i2 ∧ lk R F i2 j2 := ⟨c6, ⟨c6.2.1, c15.2.1, c6.2.2.symm.trans c15.2.2⟩, ⟨c15.2.1, c25.2.1, c15.2.2.symm.trans c25.2.2⟩⟩
        refine lv_aload_n hx hb dX7_four_30 rfl (lv_at hl 0 rfl) ?_
        refine va_get (D := D) (ci := 6) (v := .ref (b 0)) (C := RX7) (T := TX7) (N := 16) hx hb hts iX7 hown hK hP 0 rfl rfl 1 (by decide) (hts (.fieldLink RX7 7 "CancelRowsModel" "lengths" "[I") (by decide +kernel)) (fun _ h9 => h9) rfl dX7_four_31 ?_
        refine lv_iload_n hx hb dX7_four_34 rfl (lv_at hl 1 rfl) ?_
        refine z_iald hx hb hK hP 1 0 rfl rfl (i.toNat) (by omega) (by omega) (by omega) dX7_four_35 ?_
        refine z_re (e2 := ((F (i.toNat) : Nat) : Int)) (rfl) ?_
        refine lv_istore (lv' := [(5, .int (zI (((F (i.toNat) : Nat) : Int)))), (0, .ref y), (1, .int (zI (i))), (2, .int (zI (j))), (3, .int (zI (i2))), (4, .int (zI (j2)))]) hx hb dX7_four_36 hl (by decide) rfl (fun ls hl => ?_)
        refine lv_iconst (v := zI 1) hx hb dX7_four_38 rfl ?_
        refine z_re (e2 := ((1 : Nat) : Int)) (rfl) ?_
        refine lv_istore (lv' := [(6, .int (zI (((1 : Nat) : Int)))), (5, .int (zI (((F (i.toNat) : Nat) : Int)))), (0, .ref y), (1, .int (zI (i))), (2, .int (zI (j))), (3, .int (zI (i2))), (4, .int (zI (j2)))]) hx hb dX7_four_39 hl (by decide) rfl (fun ls hl => ?_)
        have lp41 : ∀ (NN : Nat) (k : Nat) (q1 : 1 ≤ k) (q2 : k ≤ F i.toNat) (q3 : ff (fourF F G i j i2 j2) 1 (F i.toNat - 1) = ff (fourF F G i j i2 j2) k (F i.toNat - k)), F i.toNat - k < NN → ∀ (ls : Array Slot), lv_has ls 7 [(0, .ref y), (1, .int (zI (i))), (2, .int (zI (j))), (3, .int (zI (i2))), (4, .int (zI (j2))), (5, .int (zI (((F i.toNat : Nat) : Int)))), (6, .int (zI (k)))] → W p l e (headSpec wsX7_four ({ frames := 3, cells := 0, slots := 0, locals := 68 })).room s m ([.ref y, .int (zI (i)), .int (zI (j)), .int (zI (i2)), .int (zI (j2))] : List Value).toArray below meth c s.heap [] 0 0 (MQ below (vp_Si (fun r => r = zI (sp_four R F G i j i2 j2))) ([.ref y, .int (zI (i)), .int (zI (j)), .int (zI (i2)), .int (zI (j2))] : List Value).toArray s 0 0 (fun _ => False)) (F0 m 41 ls []) := by
          intro NN
          induction NN with
          | zero =>
            intro k q1 q2 q3 hmu
            exact absurd hmu (Nat.not_lt_zero _)
          | succ NN ih41 =>
            intro k q1 q2 q3 hmu ls hl
            have b1 := rS_bd (F i.toNat) (G i.toNat) k
            have b2 := rS_bd (F i.toNat) (G j.toNat) k
            have b3 := rS_bd (F i.toNat) (G i2.toNat) k
            have b4 := rS_bd (F i.toNat) (G j2.toNat) k
            refine lv_iload hx hb dX7_four_41 (lv_at hl 6 rfl) ?_
            refine lv_iload hx hb dX7_four_43 (lv_at hl 5 rfl) ?_
            refine z_icmp_ge (tgt := 116) hx hb dX7_four_45 (by decide) (by omega) (by omega) (fun c45 => ?_) (fun c45 => ?_)
            · refine lv_iconst (v := zI 0) hx hb dX7_four_116 rfl ?_
              exact W.iret (v := (zI (0))) hx hb hr (fun tq ht hW => ⟨_, rfl, by rw [sp_four, if_pos hq, q3, ff_e _ (by omega)]; rfl, ht⟩) (fun q h => by cases h) dX7_four_117
            · refine lv_iload hx hb dX7_four_48 (lv_at hl 5 rfl) ?_
              refine lv_aload_n hx hb dX7_four_50 rfl (lv_at hl 0 rfl) ?_
              refine va_get (D := D) (ci := 6) (v := .ref (b 1)) (C := RX7) (T := TX7) (N := 16) hx hb hts iX7 hown hK hP 0 rfl rfl 2 (by decide) (hts (.fieldLink RX7 13 "CancelRowsModel" "numbers" "[J") (by decide +kernel)) (fun _ h9 => h9) rfl dX7_four_51 ?_
              refine lv_iload_n hx hb dX7_four_54 rfl (lv_at hl 1 rfl) ?_
              refine l_lald hx hb hK hP 2 1 rfl rfl (i.toNat) (by omega) (by omega) (by omega) dX7_four_55 ?_
              refine lv_iload hx hb dX7_four_56 (lv_at hl 6 rfl) ?_
              refine vp_callSi (va_runS (As := [.int (zI (((F i.toNat : Nat) : Int))), .long (lN ((G) (i.toNat))), .int (zI (k))]) (rest := []) ⟨hx, hb, hml, hown, hts⟩ (c_X7_roundOf l (F i.toNat) (G i.toNat) k h1.2.1 (lt32 h1.2.2 h1.2.1) (by omega)) (va_cwS 3 hts gX7_four_X7_roundOf rfl rfl rfl (by decide +kernel) ⟨Nat.le_of_ble_eq_true rfl, Nat.le_of_ble_eq_true rfl⟩) ⟨fun a U g mk q => q, fun U hU hW => ⟨rfl, trivial⟩⟩ rfl rfl hl.1 rfl (lv_room (Nat.le_of_ble_eq_true rfl)) dX7_four_58 ⟨Nat.le_of_ble_eq_true rfl, Nat.le_of_ble_eq_true rfl⟩).run (fun r hr58 => ?_)
              obtain rfl := hr58
              refine lv_iload hx hb dX7_four_61 (lv_at hl 5 rfl) ?_
              refine lv_aload_n hx hb dX7_four_63 rfl (lv_at hl 0 rfl) ?_
              refine va_get (D := D) (ci := 6) (v := .ref (b 1)) (C := RX7) (T := TX7) (N := 16) hx hb hts iX7 hown hK hP 0 rfl rfl 2 (by decide) (hts (.fieldLink RX7 13 "CancelRowsModel" "numbers" "[J") (by decide +kernel)) (fun _ h9 => h9) rfl dX7_four_64 ?_
              refine lv_iload_n hx hb dX7_four_67 rfl (lv_at hl 2 rfl) ?_
              refine l_lald hx hb hK hP 2 1 rfl rfl (j.toNat) (by omega) (by omega) (by omega) dX7_four_68 ?_
              refine lv_iload hx hb dX7_four_69 (lv_at hl 6 rfl) ?_
              refine vp_callSi (va_runS (As := [.int (zI (((F i.toNat : Nat) : Int))), .long (lN ((G) (j.toNat))), .int (zI (k))]) (rest := [.int (zI (rS (F i.toNat) ((G) (i.toNat)) (k)))]) ⟨hx, hb, hml, hown, hts⟩ (c_X7_roundOf l (F i.toNat) (G j.toNat) k h1.2.1 (lt32 h2.2.2 h2.2.1) (by omega)) (va_cwS 3 hts gX7_four_X7_roundOf rfl rfl rfl (by decide +kernel) ⟨Nat.le_of_ble_eq_true rfl, Nat.le_of_ble_eq_true rfl⟩) ⟨fun a U g mk q => q, fun U hU hW => ⟨rfl, trivial⟩⟩ rfl rfl hl.1 rfl (lv_room (Nat.le_of_ble_eq_true rfl)) dX7_four_71 ⟨Nat.le_of_ble_eq_true rfl, Nat.le_of_ble_eq_true rfl⟩).run (fun r hr71 => ?_)
              obtain rfl := hr71
              refine z_iadd hx hb dX7_four_74 ?_
              refine lv_iload hx hb dX7_four_75 (lv_at hl 5 rfl) ?_
              refine lv_aload_n hx hb dX7_four_77 rfl (lv_at hl 0 rfl) ?_
              refine va_get (D := D) (ci := 6) (v := .ref (b 1)) (C := RX7) (T := TX7) (N := 16) hx hb hts iX7 hown hK hP 0 rfl rfl 2 (by decide) (hts (.fieldLink RX7 13 "CancelRowsModel" "numbers" "[J") (by decide +kernel)) (fun _ h9 => h9) rfl dX7_four_78 ?_
              refine lv_iload_n hx hb dX7_four_81 rfl (lv_at hl 3 rfl) ?_
              refine l_lald hx hb hK hP 2 1 rfl rfl (i2.toNat) (by omega) (by omega) (by omega) dX7_four_82 ?_
              refine lv_iload hx hb dX7_four_83 (lv_at hl 6 rfl) ?_
              refine vp_callSi (va_runS (As := [.int (zI (((F i.toNat : Nat) : Int))), .long (lN ((G) (i2.toNat))), .int (zI (k))]) (rest := [.int (zI ((rS (F i.toNat) ((G) (i.toNat)) (k)) + (rS (F i.toNat) ((G) (j.toNat)) (k))))]) ⟨hx, hb, hml, hown, hts⟩ (c_X7_roundOf l (F i.toNat) (G i2.toNat) k h1.2.1 (lt32 h3.2.2 h3.2.1) (by omega)) (va_cwS 3 hts gX7_four_X7_roundOf rfl rfl rfl (by decide +kernel) ⟨Nat.le_of_ble_eq_true rfl, Nat.le_of_ble_eq_true rfl⟩) ⟨fun a U g mk q => q, fun U hU hW => ⟨rfl, trivial⟩⟩ rfl rfl hl.1 rfl (lv_room (Nat.le_of_ble_eq_true rfl)) dX7_four_85 ⟨Nat.le_of_ble_eq_true rfl, Nat.le_of_ble_eq_true rfl⟩).run (fun r hr85 => ?_)
              obtain rfl := hr85
              refine z_iadd hx hb dX7_four_88 ?_
              refine lv_iload hx hb dX7_four_89 (lv_at hl 5 rfl) ?_
              refine lv_aload_n hx hb dX7_four_91 rfl (lv_at hl 0 rfl) ?_
              refine va_get (D := D) (ci := 6) (v := .ref (b 1)) (C := RX7) (T := TX7) (N := 16) hx hb hts iX7 hown hK hP 0 rfl rfl 2 (by decide) (hts (.fieldLink RX7 13 "CancelRowsModel" "numbers" "[J") (by decide +kernel)) (fun _ h9 => h9) rfl dX7_four_92 ?_
              refine lv_iload hx hb dX7_four_95 (lv_at hl 4 rfl) ?_
              refine l_lald hx hb hK hP 2 1 rfl rfl (j2.toNat) (by omega) (by omega) (by omega) dX7_four_97 ?_
              refine lv_iload hx hb dX7_four_98 (lv_at hl 6 rfl) ?_
              refine vp_callSi (va_runS (As := [.int (zI (((F i.toNat : Nat) : Int))), .long (lN ((G) (j2.toNat))), .int (zI (k))]) (rest := [.int (zI (((rS (F i.toNat) ((G) (i.toNat)) (k)) + (rS (F i.toNat) ((G) (j.toNat)) (k))) + (rS (F i.toNat) ((G) (i2.toNat)) (k))))]) ⟨hx, hb, hml, hown, hts⟩ (c_X7_roundOf l (F i.toNat) (G j2.toNat) k h1.2.1 (lt32 h4.2.2 h4.2.1) (by omega)) (va_cwS 3 hts gX7_four_X7_roundOf rfl rfl rfl (by decide +kernel) ⟨Nat.le_of_ble_eq_true rfl, Nat.le_of_ble_eq_true rfl⟩) ⟨fun a U g mk q => q, fun U hU hW => ⟨rfl, trivial⟩⟩ rfl rfl hl.1 rfl (lv_room (Nat.le_of_ble_eq_true rfl)) dX7_four_100 ⟨Nat.le_of_ble_eq_true rfl, Nat.le_of_ble_eq_true rfl⟩).run (fun r hr100 => ?_)
              obtain rfl := hr100
              refine z_iadd hx hb dX7_four_103 ?_
              refine z_if_eq (tgt := 110) hx hb dX7_four_104 (by decide) (by omega) (fun c104 => ?_) (fun c104 => ?_)
              · have hz : fourF F G i j i2 j2 k = 0 := by
                  show (rS (F i.toNat) (G i.toNat) k + rS (F i.toNat) (G j.toNat) k) + (rS (F i.toNat) (G i2.toNat) k + rS (F i.toNat) (G j2.toNat) k) = 0
                  omega
                refine lv_iinc (v := zI (((k + 1 : Nat) : Int))) (lv' := [(6, .int (zI (((k + 1 : Nat) : Int)))), (0, .ref y), (1, .int (zI (i))), (2, .int (zI (j))), (3, .int (zI (i2))), (4, .int (zI (j2))), (5, .int (zI (((F i.toNat : Nat) : Int))))]) hx hb dX7_four_110 hl (k := 6) rfl (zI_incr (by omega)) (by decide) rfl (fun ls hl => ?_)
                refine lv_goto (tgt := 41) hx hb dX7_four_113 (by decide) ?_
                exact ih41 (k + 1) (by omega) (by omega) (by rw [q3, ff_s _ (by omega), if_neg (fun z => z hz)]) (by omega) _ (lv_sub hl [1, 2, 3, 4, 5, 6, 0] rfl)
              · refine lv_iload hx hb dX7_four_107 (lv_at hl 6 rfl) ?_
                exact W.iret (v := (zI (k))) hx hb hr (fun tq ht hW => ⟨_, rfl, by rw [sp_four, if_pos hq, q3, ff_s _ (by omega), if_pos (show fourF F G i j i2 j2 k ≠ 0 from fun z => c104 (by have z2 : (rS (F i.toNat) (G i.toNat) k + rS (F i.toNat) (G j.toNat) k) + (rS (F i.toNat) (G i2.toNat) k + rS (F i.toNat) (G j2.toNat) k) = 0 := z; omega))], ht⟩) (fun q h => by cases h) dX7_four_109
        exact lp41 _ (1) (by omega) (by omega) (rfl) (Nat.lt_succ_self _) _ (lv_sub hl [2, 3, 4, 5, 6, 1, 0] rfl)
      · refine lv_iconst (v := zI (-1)) hx hb dX7_four_28 rfl ?_
        exact W.iret (v := (zI ((-1)))) hx hb hr (fun tq ht hW => ⟨_, rfl, by rw [sp_four, if_neg (fun z => c25 ⟨z.1.1, z.2.2.2.1, (z.1.2.2.trans z.2.1.2.2).trans z.2.2.2.2⟩)], ht⟩) (fun q h => by cases h) dX7_four_29

-- the check: turn
set_option maxHeartbeats 4000000 in
set_option maxRecDepth 100000 in
theorem c_X7_turn (l : Launch) (D : va_G) (t : Nat → ClassId) (sz : Nat) (y : Nat) (b : Nat → Nat) (R : Nat) (fm kn pm0 lm : Int) (F G : Nat → Nat) (gV : RV R F G) (i w : Int) (gi : -2147483648 ≤ i ∧ i < 2147483648) (gw : -2147483648 ≤ w ∧ w < 2147483648) : Met l yX7_turn wsX7_turn ({ frames := 2, cells := 0, slots := 0, locals := 50 }) (va_Pc [.ref y, .int (zI (i)), .int (zI (w))] (fun U => U.heap.size = sz ∧ va_P D vwCl ([oM y b (((R : Nat) : Int)) (fm) (kn) (pm0) (lm), aI t (b 0) 24 (cN F), aJ t (b 1) 24 (G)]) U.heap ∧ va_K D vwCl (TY t) U ∧ va_D (fun _ => True) ([oM y b (((R : Nat) : Int)) (fm) (kn) (pm0) (lm), aI t (b 0) 24 (cN F), aJ t (b 1) 24 (G)]))) (va_Qi (fun r (u : RT) => r = zI (sp_turn R F G i w).1 ∧ u = (sp_turn R F G i w).2) (fun (u : RT) t1 => va_P D vwCl ([oM y b (((u.1 : Nat) : Int)) (fm) (kn) (pm0) (lm), aI t (b 0) 24 (cN (u.2.1)), aJ t (b 1) 24 (u.2.2)]) t1.heap ∧ va_K D vwCl (TY t) t1 ∧ va_D (va_A ([oM y b (((R : Nat) : Int)) (fm) (kn) (pm0) (lm), aI t (b 0) 24 (cN F), aJ t (b 1) 24 (G)]) sz) ([oM y b (((u.1 : Nat) : Int)) (fm) (kn) (pm0) (lm), aI t (b 0) 24 (cN (u.2.1)), aJ t (b 1) 24 (u.2.2)])) (va_A ([oM y b (((R : Nat) : Int)) (fm) (kn) (pm0) (lm), aI t (b 0) 24 (cN F), aJ t (b 1) 24 (G)]) sz)) 0 0 (va_A ([oM y b (((R : Nat) : Int)) (fm) (kn) (pm0) (lm), aI t (b 0) 24 (cN F), aJ t (b 1) 24 (G)]) sz) := by
  refine Met.ofW (cc := cX7_turn) (maxL := 3) (ret := (some .int)) (by decide) rfl ?_
  intro p e s m args below meth c s₁ B hml hv
  obtain ⟨rfl, hsz, hP, hK, hD0⟩ := hv
  have hx := B.exec
  have hb := B.bytes
  have hr := B.returns
  have hts := atoms_spec (ws := wsX7_turn) B.pre
  have hown : s.vm.findClass RX7 = some m.cls := findClass_of_methodNamed B.named
  have hlocks := B.notSynchronized
  subst hsz
  have hD := hD0.self (sz := s.heap.size)
  generalize hAe : va_A ([oM y b (((R : Nat) : Int)) (fm) (kn) (pm0) (lm), aI t (b 0) 24 (cN F), aJ t (b 1) 24 (G)]) s.heap.size = AA at hD ⊢
  have hA : ∀ q : Nat, s.heap.size ≤ q → AA q := fun q h => by rw [← hAe]; exact Or.inr h
  have hS : va_S AA s.heap s.heap [] := va_S.rf
  have hP : va_P D vwCl ([oM y b (((R : Nat) : Int)) (fm) (kn) (pm0) (lm), aI t (b 0) 24 (cN F), aJ t (b 1) 24 (G)]) s.heap := hP
  have hl := lv_entry ([.ref y, .int (zI (i)), .int (zI (w))]) (n := 3) (Nat.le_of_ble_eq_true rfl)
  rw [lg_entry_eq]
  generalize (lg_sl ([.ref y, .int (zI (i)), .int (zI (w))]) ++ List.replicate (3 - (lg_sl ([.ref y, .int (zI (i)), .int (zI (w))])).length) Slot.unset).toArray = ls at hl ⊢
  have hl : lv_has ls 3 [(0, .ref y), (1, .int (zI (i))), (2, .int (zI (w)))] := hl
  have iX7 : ∀ w ∈ u_ws RX7 TX7 16, w ∈ wsX7_turn := by decide +kernel
  have gR := gV.1
  refine lv_aload_n hx hb dX7_turn_0 rfl (lv_at hl 0 rfl) ?_
  refine lv_iload_n hx hb dX7_turn_1 rfl (lv_at hl 1 rfl) ?_
  have hPc := hP.sub (ws' := [oM y b (((R : Nat) : Int)) (fm) (kn) (pm0) (lm)]) [0] rfl
  refine vp_callSi (va_runV (As := [.int (zI (i))]) (rest := []) ⟨hx, hb, hml, hown, hts⟩ (c_X7_is l D t y b R fm kn pm0 lm gV.1 i gi) (cwV 1 hts gX7_turn_X7_is rfl rfl rfl (by decide +kernel) ⟨Nat.le_of_ble_eq_true rfl, Nat.le_of_ble_eq_true rfl⟩) ⟨fun a U g mk q => ⟨q.1, q.2.1, va_K.moved (u := U) (U := U.calling g mk a) (Vm.Alike.refl U.vm) q.2.2⟩, va_recv hK hPc (ci := 6) (q0 := 0) rfl rfl, fun U hU hW => ⟨rfl, by rw [hU]; exact hPc, va_K.moved hW.alike hK⟩⟩ rfl rfl hl.1 rfl (lv_room (Nat.le_of_ble_eq_true rfl)) dX7_turn_2 ⟨Nat.le_of_ble_eq_true rfl, Nat.le_of_ble_eq_true rfl⟩).run (fun r hr2 => ?_)
  obtain rfl := hr2
  refine z_ifb_eq (P := inR R (i)) (tgt := 20) hx hb dX7_turn_5 (by decide) (fun c5 => ?_) (fun c5 => ?_)
  · refine lv_iconst (v := zI (-1)) hx hb dX7_turn_20 rfl ?_
    have hP := hP.sub (ws' := [oM y b (((R : Nat) : Int)) (fm) (kn) (pm0) (lm), aI t (b 0) 24 (cN (F)), aJ t (b 1) 24 (G)]) [0, 1, 2] rfl
    have hD := hD.sub (ws' := [oM y b (((R : Nat) : Int)) (fm) (kn) (pm0) (lm), aI t (b 0) 24 (cN (F)), aJ t (b 1) 24 (G)]) [0, 1, 2] (by decide) rfl
    exact W.iret (v := (zI ((-1)))) hx hb hr (fun tq ht hW => ⟨⟨_, (R, F, G), rfl, by rw [sp_turn, if_neg (fun z => c5 z.1)]; exact ⟨rfl, rfl⟩, by rw [ht]; exact hP, va_K.moved hW.alike hK, hD⟩, hS.F ht⟩) hS.2.2 dX7_turn_21
  · have h1 := RV_at gV c5
    refine lv_iload_n hx hb dX7_turn_8 rfl (lv_at hl 2 rfl) ?_
    refine z_i2l hx hb (by omega) dX7_turn_9 ?_
    refine lv_lconst (v := lN 0) hx hb dX7_turn_10 rfl ?_
    refine lv_ldc2 (v := lN 2) hx hb hown (hts (.constantLong RX7 64 (lN 2)) (by decide +kernel)) dX7_turn_11 ?_
    refine vp_callSi (va_runS (As := [.long (zL (w)), .long (lN (0)), .long (lN (2))]) (rest := []) ⟨hx, hb, hml, hown, hts⟩ (c_X7_in l _ _ _) (va_cwS 3 hts gX7_turn_X7_in rfl rfl rfl (by decide +kernel) ⟨Nat.le_of_ble_eq_true rfl, Nat.le_of_ble_eq_true rfl⟩) ⟨fun a U g mk q => q, fun U hU hW => ⟨rfl, trivial⟩⟩ rfl rfl hl.1 rfl (lv_room (Nat.le_of_ble_eq_true rfl)) dX7_turn_14 ⟨Nat.le_of_ble_eq_true rfl, Nat.le_of_ble_eq_true rfl⟩).run (fun r hr14 => ?_)
    have hq14 : r = zI (bP (((0 : Nat) : Int) ≤ w ∧ w ≤ ((2 : Nat) : Int))) := by rw [hr14]; exact congrArg zI (bP_cg (by simp only [zL_toInt (e := w) (by omega), lN_toI (n := 0) (by omega), lN_toI (n := 2) (by omega)]))
    obtain rfl := hq14
    refine z_ifb_ne (P := ((0 : Nat) : Int) ≤ w ∧ w ≤ ((2 : Nat) : Int)) (tgt := 22) hx hb dX7_turn_17 (by decide) (fun c17 => ?_) (fun c17 => ?_)
    · refine lv_aload_n hx hb dX7_turn_22 rfl (lv_at hl 0 rfl) ?_
      refine va_get (D := D) (ci := 6) (v := .int (zI (((R : Nat) : Int)))) (C := RX7) (T := TX7) (N := 16) hx hb hts iX7 hown hK hP 0 rfl rfl 0 (by decide) (hts (.fieldLink RX7 49 "CancelRowsModel" "many" "I") (by decide +kernel)) (fun _ h9 => h9) rfl dX7_turn_23 ?_
      refine lv_bipush (v := zI 24) hx hb dX7_turn_26 (by decide +kernel) ?_
      refine z_icmp_ne (tgt := 36) hx hb dX7_turn_28 (by decide) (by omega) (by omega) (fun c28 => ?_) (fun c28 => ?_)
      · refine lv_aload_n hx hb dX7_turn_36 rfl (lv_at hl 0 rfl) ?_
        refine lv_aload_n hx hb dX7_turn_37 rfl (lv_at hl 0 rfl) ?_
        refine va_get (D := D) (ci := 6) (v := .ref (b 0)) (C := RX7) (T := TX7) (N := 16) hx hb hts iX7 hown hK hP 0 rfl rfl 1 (by decide) (hts (.fieldLink RX7 7 "CancelRowsModel" "lengths" "[I") (by decide +kernel)) (fun _ h9 => h9) rfl dX7_turn_38 ?_
        refine lv_iload_n hx hb dX7_turn_41 rfl (lv_at hl 1 rfl) ?_
        refine z_iald hx hb hK hP 1 0 rfl rfl (i.toNat) (by omega) (by omega) (by omega) dX7_turn_42 ?_
        refine z_re (e2 := ((F (i.toNat) : Nat) : Int)) (rfl) ?_
        refine lv_aload_n hx hb dX7_turn_43 rfl (lv_at hl 0 rfl) ?_
        refine va_get (D := D) (ci := 6) (v := .ref (b 0)) (C := RX7) (T := TX7) (N := 16) hx hb hts iX7 hown hK hP 0 rfl rfl 1 (by decide) (hts (.fieldLink RX7 7 "CancelRowsModel" "lengths" "[I") (by decide +kernel)) (fun _ h9 => h9) rfl dX7_turn_44 ?_
        refine lv_iload_n hx hb dX7_turn_47 rfl (lv_at hl 1 rfl) ?_
        refine z_iald hx hb hK hP 1 0 rfl rfl (i.toNat) (by omega) (by omega) (by omega) dX7_turn_48 ?_
        refine z_re (e2 := ((F (i.toNat) : Nat) : Int)) (rfl) ?_
        refine lv_aload_n hx hb dX7_turn_49 rfl (lv_at hl 0 rfl) ?_
        refine va_get (D := D) (ci := 6) (v := .ref (b 1)) (C := RX7) (T := TX7) (N := 16) hx hb hts iX7 hown hK hP 0 rfl rfl 2 (by decide) (hts (.fieldLink RX7 13 "CancelRowsModel" "numbers" "[J") (by decide +kernel)) (fun _ h9 => h9) rfl dX7_turn_50 ?_
        refine lv_iload_n hx hb dX7_turn_53 rfl (lv_at hl 1 rfl) ?_
        refine l_lald hx hb hK hP 2 1 rfl rfl (i.toNat) (by omega) (by omega) (by omega) dX7_turn_54 ?_
        refine lv_iload_n hx hb dX7_turn_55 rfl (lv_at hl 2 rfl) ?_
        refine z_re (e2 := ((w.toNat : Nat) : Int)) (by omega) ?_
        refine vp_callSl (va_runS (As := [.int (zI (((F (i.toNat) : Nat) : Int))), .long (lN ((G) (i.toNat))), .int (zI (((w.toNat : Nat) : Int)))]) (rest := [.int (zI (((F (i.toNat) : Nat) : Int))), .ref y]) ⟨hx, hb, hml, hown, hts⟩ (c_X7_turned l (F i.toNat) (G i.toNat) w.toNat h1.2.1 (lt32 h1.2.2 h1.2.1) (by omega)) (va_cwS 3 hts gX7_turn_X7_turned rfl rfl rfl (by decide +kernel) ⟨Nat.le_of_ble_eq_true rfl, Nat.le_of_ble_eq_true rfl⟩) ⟨fun a U g mk q => q, fun U hU hW => ⟨rfl, trivial⟩⟩ rfl rfl hl.1 rfl (lv_room (Nat.le_of_ble_eq_true rfl)) dX7_turn_56 ⟨Nat.le_of_ble_eq_true rfl, Nat.le_of_ble_eq_true rfl⟩).run (fun r hr56 => ?_)
        obtain rfl := hr56
        have hPc := hP.sub (ws' := [oM y b (((R : Nat) : Int)) (fm) (kn) (pm0) (lm), aI t (b 0) 24 (cN F), aJ t (b 1) 24 (G)]) [0, 1, 2] rfl
        have hDc := hD.sub (ws' := [oM y b (((R : Nat) : Int)) (fm) (kn) (pm0) (lm), aI t (b 0) 24 (cN F), aJ t (b 1) 24 (G)]) [0, 1, 2] (by decide) rfl
        have hFc := va_free (wc := [oM y b (((R : Nat) : Int)) (fm) (kn) (pm0) (lm), aI t (b 0) 24 (cN F), aJ t (b 1) 24 (G)]) hD hS hA [0, 1, 2] rfl
        refine va_calli (va_runV (As := [.int (zI (((F (i.toNat) : Nat) : Int))), .long (lN (trn (F (i.toNat)) ((G) (i.toNat)) (w.toNat)))]) (rest := []) ⟨hx, hb, hml, hown, hts⟩ (c_X7_added l D t s.heap.size y b (R) fm kn pm0 lm (F) (G) (by omega) (F i.toNat) (trn (F i.toNat) (G i.toNat) w.toNat) (by omega)) (cwV 2 hts gX7_turn_X7_added rfl rfl rfl (by decide +kernel) ⟨Nat.le_of_ble_eq_true rfl, Nat.le_of_ble_eq_true rfl⟩) ⟨fun a U g mk q => by obtain ⟨q0, q1, qP, qK, qD⟩ := q; exact ⟨q0, q1, qP, va_K.moved (u := U) (U := U.calling g mk a) (Vm.Alike.refl U.vm) qK, qD⟩, va_recv hK hPc (ci := 6) (q0 := 0) rfl rfl, fun U hU hW => ⟨rfl, by rw [hU], by rw [hU]; exact hPc, va_K.moved hW.alike hK, hDc.weaken (fun _ _ _ _ => trivial)⟩⟩ rfl rfl hl.1 rfl (lv_room (Nat.le_of_ble_eq_true rfl)) dX7_turn_59 ⟨Nat.le_of_ble_eq_true rfl, Nat.le_of_ble_eq_true rfl⟩) hS (fun q _ h => hFc q h) hFc (fun r u tq H1 locs ht hvm hr59 hB hz1 hk1 hS => ?_)
        obtain ⟨R2, F2, G2⟩ := u
        obtain ⟨hP1, hK1, hD1⟩ := hB
        rw [ht] at hP1
        obtain ⟨hP, hD⟩ := va_join (wr := []) (w1 := [oM y b (((R2 : Nat) : Int)) (fm) (kn) (pm0) (lm), aI t (b 0) 24 (cN (F2)), aJ t (b 1) 24 (G2)]) hP hD [0, 1, 2] [] rfl rfl (by decide) (by decide) hk1 hFc hP1 hD1
        generalize H1 = H at hP hS ⊢
        have hP : va_P D vwCl [oM y b (((R2 : Nat) : Int)) (fm) (kn) (pm0) (lm), aI t (b 0) 24 (cN (F2)), aJ t (b 1) 24 (G2)] H := hP
        have hD : va_D AA [oM y b (((R2 : Nat) : Int)) (fm) (kn) (pm0) (lm), aI t (b 0) 24 (cN (F2)), aJ t (b 1) 24 (G2)] := hD
        obtain ⟨rfl, hu⟩ := hr59
        obtain ⟨rfl, rfl, rfl⟩ : R2 = R + 1 ∧ F2 = va_up (F) (R) (F i.toNat) ∧ G2 = va_up (G) (R) (trn (F i.toNat) (G i.toNat) w.toNat) := ⟨congrArg (·.1) hu, congrArg (·.2.1) hu, congrArg (·.2.2) hu⟩
        have hP := hP.sub (ws' := [oM y b (((R + 1 : Nat) : Int)) (fm) (kn) (pm0) (lm), aI t (b 0) 24 (cN (va_up F R (F i.toNat))), aJ t (b 1) 24 (va_up G R (trn (F i.toNat) (G i.toNat) w.toNat))]) [0, 1, 2] rfl
        have hD := hD.sub (ws' := [oM y b (((R + 1 : Nat) : Int)) (fm) (kn) (pm0) (lm), aI t (b 0) 24 (cN (va_up F R (F i.toNat))), aJ t (b 1) 24 (va_up G R (trn (F i.toNat) (G i.toNat) w.toNat))]) [0, 1, 2] (by decide) rfl
        exact W.iret (v := (zI (((R : Nat) : Int)))) hx hb hr (fun tq ht hW => ⟨⟨_, (R + 1, va_up F R (F i.toNat), va_up G R (trn (F i.toNat) (G i.toNat) w.toNat)), rfl, by rw [sp_turn, if_pos ⟨c5, by omega⟩, sp_add_y (by omega)]; exact ⟨rfl, rfl⟩, by rw [ht]; exact hP, va_K.moved hW.alike hK, hD⟩, hS.F ht⟩) hS.2.2 dX7_turn_62
      · refine lv_bipush (v := zI (-3)) hx hb dX7_turn_31 (by decide +kernel) ?_
        refine lv_goto (tgt := 62) hx hb dX7_turn_33 (by decide) ?_
        have hP := hP.sub (ws' := [oM y b (((R : Nat) : Int)) (fm) (kn) (pm0) (lm), aI t (b 0) 24 (cN (F)), aJ t (b 1) 24 (G)]) [0, 1, 2] rfl
        have hD := hD.sub (ws' := [oM y b (((R : Nat) : Int)) (fm) (kn) (pm0) (lm), aI t (b 0) 24 (cN (F)), aJ t (b 1) 24 (G)]) [0, 1, 2] (by decide) rfl
        exact W.iret (v := (zI ((-3)))) hx hb hr (fun tq ht hW => ⟨⟨_, (R, F, G), rfl, by rw [sp_turn, if_pos ⟨c5, by omega⟩, sp_add_n (by omega)]; exact ⟨rfl, rfl⟩, by rw [ht]; exact hP, va_K.moved hW.alike hK, hD⟩, hS.F ht⟩) hS.2.2 dX7_turn_62
    · refine lv_iconst (v := zI (-1)) hx hb dX7_turn_20 rfl ?_
      have hP := hP.sub (ws' := [oM y b (((R : Nat) : Int)) (fm) (kn) (pm0) (lm), aI t (b 0) 24 (cN (F)), aJ t (b 1) 24 (G)]) [0, 1, 2] rfl
      have hD := hD.sub (ws' := [oM y b (((R : Nat) : Int)) (fm) (kn) (pm0) (lm), aI t (b 0) 24 (cN (F)), aJ t (b 1) 24 (G)]) [0, 1, 2] (by decide) rfl
      exact W.iret (v := (zI ((-1)))) hx hb hr (fun tq ht hW => ⟨⟨_, (R, F, G), rfl, by rw [sp_turn, if_neg (fun z => c17 (by omega))]; exact ⟨rfl, rfl⟩, by rw [ht]; exact hP, va_K.moved hW.alike hK, hD⟩, hS.F ht⟩) hS.2.2 dX7_turn_21

-- the check: put
set_option maxHeartbeats 4000000 in
set_option maxRecDepth 100000 in
theorem c_X7_put (l : Launch) (D : va_G) (t : Nat → ClassId) (sz : Nat) (y : Nat) (b : Nat → Nat) (R : Nat) (fm kn pm0 lm : Int) (F G : Nat → Nat) (gV : RV R F G) (i j : Int) (gi : -2147483648 ≤ i ∧ i < 2147483648) (gj : -2147483648 ≤ j ∧ j < 2147483648) : Met l yX7_put wsX7_put ({ frames := 2, cells := 0, slots := 0, locals := 46 }) (va_Pc [.ref y, .int (zI (i)), .int (zI (j))] (fun U => U.heap.size = sz ∧ va_P D vwCl ([oM y b (((R : Nat) : Int)) (fm) (kn) (pm0) (lm), aI t (b 0) 24 (cN F), aJ t (b 1) 24 (G)]) U.heap ∧ va_K D vwCl (TY t) U ∧ va_D (fun _ => True) ([oM y b (((R : Nat) : Int)) (fm) (kn) (pm0) (lm), aI t (b 0) 24 (cN F), aJ t (b 1) 24 (G)]))) (va_Qi (fun r (u : RT) => r = zI (sp_put R F G i j).1 ∧ u = (sp_put R F G i j).2) (fun (u : RT) t1 => va_P D vwCl ([oM y b (((u.1 : Nat) : Int)) (fm) (kn) (pm0) (lm), aI t (b 0) 24 (cN (u.2.1)), aJ t (b 1) 24 (u.2.2)]) t1.heap ∧ va_K D vwCl (TY t) t1 ∧ va_D (va_A ([oM y b (((R : Nat) : Int)) (fm) (kn) (pm0) (lm), aI t (b 0) 24 (cN F), aJ t (b 1) 24 (G)]) sz) ([oM y b (((u.1 : Nat) : Int)) (fm) (kn) (pm0) (lm), aI t (b 0) 24 (cN (u.2.1)), aJ t (b 1) 24 (u.2.2)])) (va_A ([oM y b (((R : Nat) : Int)) (fm) (kn) (pm0) (lm), aI t (b 0) 24 (cN F), aJ t (b 1) 24 (G)]) sz)) 0 0 (va_A ([oM y b (((R : Nat) : Int)) (fm) (kn) (pm0) (lm), aI t (b 0) 24 (cN F), aJ t (b 1) 24 (G)]) sz) := by
  refine Met.ofW (cc := cX7_put) (maxL := 4) (ret := (some .int)) (by decide) rfl ?_
  intro p e s m args below meth c s₁ B hml hv
  obtain ⟨rfl, hsz, hP, hK, hD0⟩ := hv
  have hx := B.exec
  have hb := B.bytes
  have hr := B.returns
  have hts := atoms_spec (ws := wsX7_put) B.pre
  have hown : s.vm.findClass RX7 = some m.cls := findClass_of_methodNamed B.named
  have hlocks := B.notSynchronized
  subst hsz
  have hD := hD0.self (sz := s.heap.size)
  generalize hAe : va_A ([oM y b (((R : Nat) : Int)) (fm) (kn) (pm0) (lm), aI t (b 0) 24 (cN F), aJ t (b 1) 24 (G)]) s.heap.size = AA at hD ⊢
  have hA : ∀ q : Nat, s.heap.size ≤ q → AA q := fun q h => by rw [← hAe]; exact Or.inr h
  have hS : va_S AA s.heap s.heap [] := va_S.rf
  have hP : va_P D vwCl ([oM y b (((R : Nat) : Int)) (fm) (kn) (pm0) (lm), aI t (b 0) 24 (cN F), aJ t (b 1) 24 (G)]) s.heap := hP
  have hl := lv_entry ([.ref y, .int (zI (i)), .int (zI (j))]) (n := 4) (Nat.le_of_ble_eq_true rfl)
  rw [lg_entry_eq]
  generalize (lg_sl ([.ref y, .int (zI (i)), .int (zI (j))]) ++ List.replicate (4 - (lg_sl ([.ref y, .int (zI (i)), .int (zI (j))])).length) Slot.unset).toArray = ls at hl ⊢
  have hl : lv_has ls 4 [(0, .ref y), (1, .int (zI (i))), (2, .int (zI (j)))] := hl
  have iX7 : ∀ w ∈ u_ws RX7 TX7 16, w ∈ wsX7_put := by decide +kernel
  have gR := gV.1
  refine lv_aload_n hx hb dX7_put_0 rfl (lv_at hl 0 rfl) ?_
  refine lv_iload_n hx hb dX7_put_1 rfl (lv_at hl 1 rfl) ?_
  have hPc := hP.sub (ws' := [oM y b (((R : Nat) : Int)) (fm) (kn) (pm0) (lm)]) [0] rfl
  refine vp_callSi (va_runV (As := [.int (zI (i))]) (rest := []) ⟨hx, hb, hml, hown, hts⟩ (c_X7_is l D t y b R fm kn pm0 lm gV.1 i gi) (cwV 1 hts gX7_put_X7_is rfl rfl rfl (by decide +kernel) ⟨Nat.le_of_ble_eq_true rfl, Nat.le_of_ble_eq_true rfl⟩) ⟨fun a U g mk q => ⟨q.1, q.2.1, va_K.moved (u := U) (U := U.calling g mk a) (Vm.Alike.refl U.vm) q.2.2⟩, va_recv hK hPc (ci := 6) (q0 := 0) rfl rfl, fun U hU hW => ⟨rfl, by rw [hU]; exact hPc, va_K.moved hW.alike hK⟩⟩ rfl rfl hl.1 rfl (lv_room (Nat.le_of_ble_eq_true rfl)) dX7_put_2 ⟨Nat.le_of_ble_eq_true rfl, Nat.le_of_ble_eq_true rfl⟩).run (fun r hr2 => ?_)
  obtain rfl := hr2
  refine z_ifb_eq (P := inR R (i)) (tgt := 16) hx hb dX7_put_5 (by decide) (fun c5 => ?_) (fun c5 => ?_)
  · refine lv_iconst (v := zI (-1)) hx hb dX7_put_16 rfl ?_
    have hP := hP.sub (ws' := [oM y b (((R : Nat) : Int)) (fm) (kn) (pm0) (lm), aI t (b 0) 24 (cN (F)), aJ t (b 1) 24 (G)]) [0, 1, 2] rfl
    have hD := hD.sub (ws' := [oM y b (((R : Nat) : Int)) (fm) (kn) (pm0) (lm), aI t (b 0) 24 (cN (F)), aJ t (b 1) 24 (G)]) [0, 1, 2] (by decide) rfl
    exact W.iret (v := (zI ((-1)))) hx hb hr (fun tq ht hW => ⟨⟨_, (R, F, G), rfl, by rw [sp_put, if_neg (fun z => c5 z.1)]; exact ⟨rfl, rfl⟩, by rw [ht]; exact hP, va_K.moved hW.alike hK, hD⟩, hS.F ht⟩) hS.2.2 dX7_put_17
  · have h1 := RV_at gV c5
    refine lv_aload_n hx hb dX7_put_8 rfl (lv_at hl 0 rfl) ?_
    refine lv_iload_n hx hb dX7_put_9 rfl (lv_at hl 2 rfl) ?_
    have hPc := hP.sub (ws' := [oM y b (((R : Nat) : Int)) (fm) (kn) (pm0) (lm)]) [0] rfl
    refine vp_callSi (va_runV (As := [.int (zI (j))]) (rest := []) ⟨hx, hb, hml, hown, hts⟩ (c_X7_is l D t y b R fm kn pm0 lm gV.1 j gj) (cwV 1 hts gX7_put_X7_is rfl rfl rfl (by decide +kernel) ⟨Nat.le_of_ble_eq_true rfl, Nat.le_of_ble_eq_true rfl⟩) ⟨fun a U g mk q => ⟨q.1, q.2.1, va_K.moved (u := U) (U := U.calling g mk a) (Vm.Alike.refl U.vm) q.2.2⟩, va_recv hK hPc (ci := 6) (q0 := 0) rfl rfl, fun U hU hW => ⟨rfl, by rw [hU]; exact hPc, va_K.moved hW.alike hK⟩⟩ rfl rfl hl.1 rfl (lv_room (Nat.le_of_ble_eq_true rfl)) dX7_put_10 ⟨Nat.le_of_ble_eq_true rfl, Nat.le_of_ble_eq_true rfl⟩).run (fun r hr10 => ?_)
    obtain rfl := hr10
    refine z_ifb_ne (P := inR R (j)) (tgt := 18) hx hb dX7_put_13 (by decide) (fun c13 => ?_) (fun c13 => ?_)
    · have h2 := RV_at gV c13
      have b1 : F i.toNat * F j.toNat ≤ 32 * 32 := Nat.mul_le_mul h1.2.1 h2.2.1
      refine lv_aload_n hx hb dX7_put_18 rfl (lv_at hl 0 rfl) ?_
      refine va_get (D := D) (ci := 6) (v := .ref (b 0)) (C := RX7) (T := TX7) (N := 16) hx hb hts iX7 hown hK hP 0 rfl rfl 1 (by decide) (hts (.fieldLink RX7 7 "CancelRowsModel" "lengths" "[I") (by decide +kernel)) (fun _ h9 => h9) rfl dX7_put_19 ?_
      refine lv_iload_n hx hb dX7_put_22 rfl (lv_at hl 1 rfl) ?_
      refine z_iald hx hb hK hP 1 0 rfl rfl (i.toNat) (by omega) (by omega) (by omega) dX7_put_23 ?_
      refine z_re (e2 := ((F (i.toNat) : Nat) : Int)) (rfl) ?_
      refine lv_aload_n hx hb dX7_put_24 rfl (lv_at hl 0 rfl) ?_
      refine va_get (D := D) (ci := 6) (v := .ref (b 0)) (C := RX7) (T := TX7) (N := 16) hx hb hts iX7 hown hK hP 0 rfl rfl 1 (by decide) (hts (.fieldLink RX7 7 "CancelRowsModel" "lengths" "[I") (by decide +kernel)) (fun _ h9 => h9) rfl dX7_put_25 ?_
      refine lv_iload_n hx hb dX7_put_28 rfl (lv_at hl 2 rfl) ?_
      refine z_iald hx hb hK hP 1 0 rfl rfl (j.toNat) (by omega) (by omega) (by omega) dX7_put_29 ?_
      refine z_re (e2 := ((F (j.toNat) : Nat) : Int)) (rfl) ?_
      refine z_iadd hx hb dX7_put_30 ?_
      refine z_re (e2 := ((F (i.toNat) + F (j.toNat) : Nat) : Int)) (by omega) ?_
      refine lv_istore_n (lv' := [(3, .int (zI (((F (i.toNat) + F (j.toNat) : Nat) : Int)))), (0, .ref y), (1, .int (zI (i))), (2, .int (zI (j)))]) hx hb dX7_put_31 rfl hl (by decide) rfl (fun ls hl => ?_)
      refine lv_aload_n hx hb dX7_put_32 rfl (lv_at hl 1 rfl) ?_
      refine va_get (D := D) (ci := 6) (v := .int (zI (((R : Nat) : Int)))) (C := RX7) (T := TX7) (N := 16) hx hb hts iX7 hown hK hP 0 rfl rfl 0 (by decide) (hts (.fieldLink RX7 49 "CancelRowsModel" "many" "I") (by decide +kernel)) (fun _ h9 => h9) rfl dX7_put_33 ?_
      refine lv_bipush (v := zI 24) hx hb dX7_put_36 (by decide +kernel) ?_
      refine z_icmp_eq (tgt := 47) hx hb dX7_put_38 (by decide) (by omega) (by omega) (fun c38 => ?_) (fun c38 => ?_)
      · refine lv_bipush (v := zI (-3)) hx hb dX7_put_47 (by decide +kernel) ?_
        refine lv_goto (tgt := 78) hx hb dX7_put_49 (by decide) ?_
        have hP := hP.sub (ws' := [oM y b (((R : Nat) : Int)) (fm) (kn) (pm0) (lm), aI t (b 0) 24 (cN (F)), aJ t (b 1) 24 (G)]) [0, 1, 2] rfl
        have hD := hD.sub (ws' := [oM y b (((R : Nat) : Int)) (fm) (kn) (pm0) (lm), aI t (b 0) 24 (cN (F)), aJ t (b 1) 24 (G)]) [0, 1, 2] (by decide) rfl
        exact W.iret (v := (zI ((-3)))) hx hb hr (fun tq ht hW => ⟨⟨_, (R, F, G), rfl, by rw [sp_put, if_pos ⟨c5, c13⟩, sp_add_n (by omega)]; exact ⟨rfl, rfl⟩, by rw [ht]; exact hP, va_K.moved hW.alike hK, hD⟩, hS.F ht⟩) hS.2.2 dX7_put_78
      · refine lv_iload_n hx hb dX7_put_41 rfl (lv_at hl 0 rfl) ?_
        refine lv_bipush (v := zI 32) hx hb dX7_put_42 (by decide +kernel) ?_
        refine z_icmp_le (tgt := 52) hx hb dX7_put_44 (by decide) (by omega) (by omega) (fun c44 => ?_) (fun c44 => ?_)
        · refine lv_aload_n hx hb dX7_put_52 rfl (lv_at hl 1 rfl) ?_
          refine lv_iload_n hx hb dX7_put_53 rfl (lv_at hl 0 rfl) ?_
          refine lv_aload_n hx hb dX7_put_54 rfl (lv_at hl 1 rfl) ?_
          refine va_get (D := D) (ci := 6) (v := .ref (b 0)) (C := RX7) (T := TX7) (N := 16) hx hb hts iX7 hown hK hP 0 rfl rfl 1 (by decide) (hts (.fieldLink RX7 7 "CancelRowsModel" "lengths" "[I") (by decide +kernel)) (fun _ h9 => h9) rfl dX7_put_55 ?_
          refine lv_iload_n hx hb dX7_put_58 rfl (lv_at hl 2 rfl) ?_
          refine z_iald hx hb hK hP 1 0 rfl rfl (i.toNat) (by omega) (by omega) (by omega) dX7_put_59 ?_
          refine z_re (e2 := ((F (i.toNat) : Nat) : Int)) (rfl) ?_
          refine lv_aload_n hx hb dX7_put_60 rfl (lv_at hl 1 rfl) ?_
          refine va_get (D := D) (ci := 6) (v := .ref (b 1)) (C := RX7) (T := TX7) (N := 16) hx hb hts iX7 hown hK hP 0 rfl rfl 2 (by decide) (hts (.fieldLink RX7 13 "CancelRowsModel" "numbers" "[J") (by decide +kernel)) (fun _ h9 => h9) rfl dX7_put_61 ?_
          refine lv_iload_n hx hb dX7_put_64 rfl (lv_at hl 2 rfl) ?_
          refine l_lald hx hb hK hP 2 1 rfl rfl (i.toNat) (by omega) (by omega) (by omega) dX7_put_65 ?_
          refine lv_aload_n hx hb dX7_put_66 rfl (lv_at hl 1 rfl) ?_
          refine va_get (D := D) (ci := 6) (v := .ref (b 1)) (C := RX7) (T := TX7) (N := 16) hx hb hts iX7 hown hK hP 0 rfl rfl 2 (by decide) (hts (.fieldLink RX7 13 "CancelRowsModel" "numbers" "[J") (by decide +kernel)) (fun _ h9 => h9) rfl dX7_put_67 ?_
          refine lv_iload_n hx hb dX7_put_70 rfl (lv_at hl 3 rfl) ?_
          refine l_lald hx hb hK hP 2 1 rfl rfl (j.toNat) (by omega) (by omega) (by omega) dX7_put_71 ?_
          refine vp_callSl (va_runS (As := [.int (zI (((F (i.toNat) : Nat) : Int))), .long (lN ((G) (i.toNat))), .long (lN ((G) (j.toNat)))]) (rest := [.int (zI (((F (i.toNat) + F (j.toNat) : Nat) : Int))), .ref y]) ⟨hx, hb, hml, hown, hts⟩ (c_X7_behind l (G i.toNat) (F i.toNat) (G j.toNat) (by omega)) (va_cwS 3 hts gX7_put_X7_behind rfl rfl rfl (by decide +kernel) ⟨Nat.le_of_ble_eq_true rfl, Nat.le_of_ble_eq_true rfl⟩) ⟨fun a U g mk q => q, fun U hU hW => ⟨rfl, trivial⟩⟩ rfl rfl hl.1 rfl (lv_room (Nat.le_of_ble_eq_true rfl)) dX7_put_72 ⟨Nat.le_of_ble_eq_true rfl, Nat.le_of_ble_eq_true rfl⟩).run (fun r hr72 => ?_)
          obtain rfl := hr72
          have hPc := hP.sub (ws' := [oM y b (((R : Nat) : Int)) (fm) (kn) (pm0) (lm), aI t (b 0) 24 (cN F), aJ t (b 1) 24 (G)]) [0, 1, 2] rfl
          have hDc := hD.sub (ws' := [oM y b (((R : Nat) : Int)) (fm) (kn) (pm0) (lm), aI t (b 0) 24 (cN F), aJ t (b 1) 24 (G)]) [0, 1, 2] (by decide) rfl
          have hFc := va_free (wc := [oM y b (((R : Nat) : Int)) (fm) (kn) (pm0) (lm), aI t (b 0) 24 (cN F), aJ t (b 1) 24 (G)]) hD hS hA [0, 1, 2] rfl
          refine va_calli (va_runV (As := [.int (zI (((F (i.toNat) + F (j.toNat) : Nat) : Int))), .long (lN (jn ((G) (i.toNat)) (F (i.toNat)) ((G) (j.toNat))))]) (rest := []) ⟨hx, hb, hml, hown, hts⟩ (c_X7_added l D t s.heap.size y b (R) fm kn pm0 lm (F) (G) (by omega) (F i.toNat + F j.toNat) (jn (G i.toNat) (F i.toNat) (G j.toNat)) (by omega)) (cwV 2 hts gX7_put_X7_added rfl rfl rfl (by decide +kernel) ⟨Nat.le_of_ble_eq_true rfl, Nat.le_of_ble_eq_true rfl⟩) ⟨fun a U g mk q => by obtain ⟨q0, q1, qP, qK, qD⟩ := q; exact ⟨q0, q1, qP, va_K.moved (u := U) (U := U.calling g mk a) (Vm.Alike.refl U.vm) qK, qD⟩, va_recv hK hPc (ci := 6) (q0 := 0) rfl rfl, fun U hU hW => ⟨rfl, by rw [hU], by rw [hU]; exact hPc, va_K.moved hW.alike hK, hDc.weaken (fun _ _ _ _ => trivial)⟩⟩ rfl rfl hl.1 rfl (lv_room (Nat.le_of_ble_eq_true rfl)) dX7_put_75 ⟨Nat.le_of_ble_eq_true rfl, Nat.le_of_ble_eq_true rfl⟩) hS (fun q _ h => hFc q h) hFc (fun r u tq H1 locs ht hvm hr75 hB hz1 hk1 hS => ?_)
          obtain ⟨R2, F2, G2⟩ := u
          obtain ⟨hP1, hK1, hD1⟩ := hB
          rw [ht] at hP1
          obtain ⟨hP, hD⟩ := va_join (wr := []) (w1 := [oM y b (((R2 : Nat) : Int)) (fm) (kn) (pm0) (lm), aI t (b 0) 24 (cN (F2)), aJ t (b 1) 24 (G2)]) hP hD [0, 1, 2] [] rfl rfl (by decide) (by decide) hk1 hFc hP1 hD1
          generalize H1 = H at hP hS ⊢
          have hP : va_P D vwCl [oM y b (((R2 : Nat) : Int)) (fm) (kn) (pm0) (lm), aI t (b 0) 24 (cN (F2)), aJ t (b 1) 24 (G2)] H := hP
          have hD : va_D AA [oM y b (((R2 : Nat) : Int)) (fm) (kn) (pm0) (lm), aI t (b 0) 24 (cN (F2)), aJ t (b 1) 24 (G2)] := hD
          obtain ⟨rfl, hu⟩ := hr75
          obtain ⟨rfl, rfl, rfl⟩ : R2 = R + 1 ∧ F2 = va_up (F) (R) (F i.toNat + F j.toNat) ∧ G2 = va_up (G) (R) (jn (G i.toNat) (F i.toNat) (G j.toNat)) := ⟨congrArg (·.1) hu, congrArg (·.2.1) hu, congrArg (·.2.2) hu⟩
          have hP := hP.sub (ws' := [oM y b (((R + 1 : Nat) : Int)) (fm) (kn) (pm0) (lm), aI t (b 0) 24 (cN (va_up F R (F i.toNat + F j.toNat))), aJ t (b 1) 24 (va_up G R (jn (G i.toNat) (F i.toNat) (G j.toNat)))]) [0, 1, 2] rfl
          have hD := hD.sub (ws' := [oM y b (((R + 1 : Nat) : Int)) (fm) (kn) (pm0) (lm), aI t (b 0) 24 (cN (va_up F R (F i.toNat + F j.toNat))), aJ t (b 1) 24 (va_up G R (jn (G i.toNat) (F i.toNat) (G j.toNat)))]) [0, 1, 2] (by decide) rfl
          exact W.iret (v := (zI (((R : Nat) : Int)))) hx hb hr (fun tq ht hW => ⟨⟨_, (R + 1, va_up F R (F i.toNat + F j.toNat), va_up G R (jn (G i.toNat) (F i.toNat) (G j.toNat))), rfl, by rw [sp_put, if_pos ⟨c5, c13⟩, sp_add_y (by omega)]; exact ⟨rfl, rfl⟩, by rw [ht]; exact hP, va_K.moved hW.alike hK, hD⟩, hS.F ht⟩) hS.2.2 dX7_put_78
        · refine lv_bipush (v := zI (-3)) hx hb dX7_put_47 (by decide +kernel) ?_
          refine lv_goto (tgt := 78) hx hb dX7_put_49 (by decide) ?_
          have hP := hP.sub (ws' := [oM y b (((R : Nat) : Int)) (fm) (kn) (pm0) (lm), aI t (b 0) 24 (cN (F)), aJ t (b 1) 24 (G)]) [0, 1, 2] rfl
          have hD := hD.sub (ws' := [oM y b (((R : Nat) : Int)) (fm) (kn) (pm0) (lm), aI t (b 0) 24 (cN (F)), aJ t (b 1) 24 (G)]) [0, 1, 2] (by decide) rfl
          exact W.iret (v := (zI ((-3)))) hx hb hr (fun tq ht hW => ⟨⟨_, (R, F, G), rfl, by rw [sp_put, if_pos ⟨c5, c13⟩, sp_add_n (by omega)]; exact ⟨rfl, rfl⟩, by rw [ht]; exact hP, va_K.moved hW.alike hK, hD⟩, hS.F ht⟩) hS.2.2 dX7_put_78
    · refine lv_iconst (v := zI (-1)) hx hb dX7_put_16 rfl ?_
      have hP := hP.sub (ws' := [oM y b (((R : Nat) : Int)) (fm) (kn) (pm0) (lm), aI t (b 0) 24 (cN (F)), aJ t (b 1) 24 (G)]) [0, 1, 2] rfl
      have hD := hD.sub (ws' := [oM y b (((R : Nat) : Int)) (fm) (kn) (pm0) (lm), aI t (b 0) 24 (cN (F)), aJ t (b 1) 24 (G)]) [0, 1, 2] (by decide) rfl
      exact W.iret (v := (zI ((-1)))) hx hb hr (fun tq ht hW => ⟨⟨_, (R, F, G), rfl, by rw [sp_put, if_neg (fun z => c13 z.2)]; exact ⟨rfl, rfl⟩, by rw [ht]; exact hP, va_K.moved hW.alike hK, hD⟩, hS.F ht⟩) hS.2.2 dX7_put_17

-- the check: weave
set_option maxHeartbeats 4000000 in
set_option maxRecDepth 100000 in
theorem c_X7_weave (l : Launch) (D : va_G) (t : Nat → ClassId) (sz : Nat) (y : Nat) (b : Nat → Nat) (R : Nat) (fm kn pm0 lm : Int) (F G : Nat → Nat) (gV : RV R F G) (i j : Int) (gi : -2147483648 ≤ i ∧ i < 2147483648) (gj : -2147483648 ≤ j ∧ j < 2147483648) : Met l yX7_weave wsX7_weave ({ frames := 3, cells := 0, slots := 0, locals := 68 }) (va_Pc [.ref y, .int (zI (i)), .int (zI (j))] (fun U => U.heap.size = sz ∧ va_P D vwCl ([oM y b (((R : Nat) : Int)) (fm) (kn) (pm0) (lm), aI t (b 0) 24 (cN F), aJ t (b 1) 24 (G)]) U.heap ∧ va_K D vwCl (TY t) U ∧ va_D (fun _ => True) ([oM y b (((R : Nat) : Int)) (fm) (kn) (pm0) (lm), aI t (b 0) 24 (cN F), aJ t (b 1) 24 (G)]))) (va_Qi (fun r (u : RT) => r = zI (sp_weave R F G i j).1 ∧ u = (sp_weave R F G i j).2) (fun (u : RT) t1 => va_P D vwCl ([oM y b (((u.1 : Nat) : Int)) (fm) (kn) (pm0) (lm), aI t (b 0) 24 (cN (u.2.1)), aJ t (b 1) 24 (u.2.2)]) t1.heap ∧ va_K D vwCl (TY t) t1 ∧ va_D (va_A ([oM y b (((R : Nat) : Int)) (fm) (kn) (pm0) (lm), aI t (b 0) 24 (cN F), aJ t (b 1) 24 (G)]) sz) ([oM y b (((u.1 : Nat) : Int)) (fm) (kn) (pm0) (lm), aI t (b 0) 24 (cN (u.2.1)), aJ t (b 1) 24 (u.2.2)])) (va_A ([oM y b (((R : Nat) : Int)) (fm) (kn) (pm0) (lm), aI t (b 0) 24 (cN F), aJ t (b 1) 24 (G)]) sz)) 0 0 (va_A ([oM y b (((R : Nat) : Int)) (fm) (kn) (pm0) (lm), aI t (b 0) 24 (cN F), aJ t (b 1) 24 (G)]) sz) := by
  refine Met.ofW (cc := cX7_weave) (maxL := 7) (ret := (some .int)) (by decide) rfl ?_
  intro p e s m args below meth c s₁ B hml hv
  obtain ⟨rfl, hsz, hP, hK, hD0⟩ := hv
  have hx := B.exec
  have hb := B.bytes
  have hr := B.returns
  have hts := atoms_spec (ws := wsX7_weave) B.pre
  have hown : s.vm.findClass RX7 = some m.cls := findClass_of_methodNamed B.named
  have hlocks := B.notSynchronized
  subst hsz
  have hD := hD0.self (sz := s.heap.size)
  generalize hAe : va_A ([oM y b (((R : Nat) : Int)) (fm) (kn) (pm0) (lm), aI t (b 0) 24 (cN F), aJ t (b 1) 24 (G)]) s.heap.size = AA at hD ⊢
  have hA : ∀ q : Nat, s.heap.size ≤ q → AA q := fun q h => by rw [← hAe]; exact Or.inr h
  have hS : va_S AA s.heap s.heap [] := va_S.rf
  have hP : va_P D vwCl ([oM y b (((R : Nat) : Int)) (fm) (kn) (pm0) (lm), aI t (b 0) 24 (cN F), aJ t (b 1) 24 (G)]) s.heap := hP
  have hl := lv_entry ([.ref y, .int (zI (i)), .int (zI (j))]) (n := 7) (Nat.le_of_ble_eq_true rfl)
  rw [lg_entry_eq]
  generalize (lg_sl ([.ref y, .int (zI (i)), .int (zI (j))]) ++ List.replicate (7 - (lg_sl ([.ref y, .int (zI (i)), .int (zI (j))])).length) Slot.unset).toArray = ls at hl ⊢
  have hl : lv_has ls 7 [(0, .ref y), (1, .int (zI (i))), (2, .int (zI (j)))] := hl
  have iX7 : ∀ w ∈ u_ws RX7 TX7 16, w ∈ wsX7_weave := by decide +kernel
  have gR := gV.1
  refine lv_aload_n hx hb dX7_weave_0 rfl (lv_at hl 0 rfl) ?_
  refine lv_iload_n hx hb dX7_weave_1 rfl (lv_at hl 1 rfl) ?_
  refine lv_iload_n hx hb dX7_weave_2 rfl (lv_at hl 2 rfl) ?_
  have hPc := hP.sub (ws' := [oM y b (((R : Nat) : Int)) (fm) (kn) (pm0) (lm), aI t (b 0) 24 (cN F)]) [0, 1] rfl
  refine vp_callSi (va_runV (As := [.int (zI (i)), .int (zI (j))]) (rest := []) ⟨hx, hb, hml, hown, hts⟩ (c_X7_areLike l D t y b R fm kn pm0 lm F G gV i j gi gj) (cwV 2 hts gX7_weave_X7_areLike rfl rfl rfl (by decide +kernel) ⟨Nat.le_of_ble_eq_true rfl, Nat.le_of_ble_eq_true rfl⟩) ⟨fun a U g mk q => ⟨q.1, q.2.1, va_K.moved (u := U) (U := U.calling g mk a) (Vm.Alike.refl U.vm) q.2.2⟩, va_recv hK hPc (ci := 6) (q0 := 0) rfl rfl, fun U hU hW => ⟨rfl, by rw [hU]; exact hPc, va_K.moved hW.alike hK⟩⟩ rfl rfl hl.1 rfl (lv_room (Nat.le_of_ble_eq_true rfl)) dX7_weave_3 ⟨Nat.le_of_ble_eq_true rfl, Nat.le_of_ble_eq_true rfl⟩).run (fun r hr3 => ?_)
  obtain rfl := hr3
  refine z_ifb_ne (P := inR R (i) ∧ inR R (j) ∧ F (i).toNat = F (j).toNat) (tgt := 11) hx hb dX7_weave_6 (by decide) (fun c6 => ?_) (fun c6 => ?_)
  · have h1 := RV_at gV c6.1
    have h2 := RV_at gV c6.2.1
    have h3 := lt32 h1.2.2 h1.2.1
    have h4 := lt32 h2.2.2 h2.2.1
    refine lv_aload_n hx hb dX7_weave_11 rfl (lv_at hl 0 rfl) ?_
    refine va_get (D := D) (ci := 6) (v := .ref (b 0)) (C := RX7) (T := TX7) (N := 16) hx hb hts iX7 hown hK hP 0 rfl rfl 1 (by decide) (hts (.fieldLink RX7 7 "CancelRowsModel" "lengths" "[I") (by decide +kernel)) (fun _ h9 => h9) rfl dX7_weave_12 ?_
    refine lv_iload_n hx hb dX7_weave_15 rfl (lv_at hl 1 rfl) ?_
    refine z_iald hx hb hK hP 1 0 rfl rfl (i.toNat) (by omega) (by omega) (by omega) dX7_weave_16 ?_
    refine z_re (e2 := ((F (i.toNat) : Nat) : Int)) (rfl) ?_
    refine lv_istore_n (lv' := [(3, .int (zI (((F (i.toNat) : Nat) : Int)))), (0, .ref y), (1, .int (zI (i))), (2, .int (zI (j)))]) hx hb dX7_weave_17 rfl hl (by decide) rfl (fun ls hl => ?_)
    refine lv_aload_n hx hb dX7_weave_18 rfl (lv_at hl 1 rfl) ?_
    refine va_get (D := D) (ci := 6) (v := .int (zI (((R : Nat) : Int)))) (C := RX7) (T := TX7) (N := 16) hx hb hts iX7 hown hK hP 0 rfl rfl 0 (by decide) (hts (.fieldLink RX7 49 "CancelRowsModel" "many" "I") (by decide +kernel)) (fun _ h9 => h9) rfl dX7_weave_19 ?_
    refine lv_bipush (v := zI 24) hx hb dX7_weave_22 (by decide +kernel) ?_
    refine z_icmp_eq (tgt := 35) hx hb dX7_weave_24 (by decide) (by omega) (by omega) (fun c24 => ?_) (fun c24 => ?_)
    · refine lv_bipush (v := zI (-3)) hx hb dX7_weave_35 (by decide +kernel) ?_
      have hP := hP.sub (ws' := [oM y b (((R : Nat) : Int)) (fm) (kn) (pm0) (lm), aI t (b 0) 24 (cN (F)), aJ t (b 1) 24 (G)]) [0, 1, 2] rfl
      have hD := hD.sub (ws' := [oM y b (((R : Nat) : Int)) (fm) (kn) (pm0) (lm), aI t (b 0) 24 (cN (F)), aJ t (b 1) 24 (G)]) [0, 1, 2] (by decide) rfl
      exact W.iret (v := (zI ((-3)))) hx hb hr (fun tq ht hW => ⟨⟨_, (R, F, G), rfl, by rw [sp_weave, if_pos c6, sp_add_n (by omega)]; exact ⟨rfl, rfl⟩, by rw [ht]; exact hP, va_K.moved hW.alike hK, hD⟩, hS.F ht⟩) hS.2.2 dX7_weave_37
    · refine lv_iconst (v := zI 2) hx hb dX7_weave_27 rfl ?_
      refine lv_iload_n hx hb dX7_weave_28 rfl (lv_at hl 0 rfl) ?_
      refine z_imul hx hb dX7_weave_29 ?_
      refine z_re (e2 := ((2 * F i.toNat : Nat) : Int)) (by omega) ?_
      refine lv_bipush (v := zI 32) hx hb dX7_weave_30 (by decide +kernel) ?_
      refine z_icmp_le (tgt := 38) hx hb dX7_weave_32 (by decide) (by omega) (by omega) (fun c32 => ?_) (fun c32 => ?_)
      · refine lv_lconst (v := lN 0) hx hb dX7_weave_38 rfl ?_
        refine n_re (e2 := wv (G i.toNat) (G j.toNat) 0) (rfl) ?_
        refine lv_lstore (lv' := [(4, .long (lN (wv (G i.toNat) (G j.toNat) 0))), (3, .int (zI (((F (i.toNat) : Nat) : Int)))), (0, .ref y), (1, .int (zI (i))), (2, .int (zI (j)))]) hx hb dX7_weave_39 hl (by decide) rfl (fun ls hl => ?_)
        refine lv_iconst (v := zI 0) hx hb dX7_weave_41 rfl ?_
        refine z_re (e2 := ((0 : Nat) : Int)) (rfl) ?_
        refine lv_istore (lv' := [(6, .int (zI (((0 : Nat) : Int)))), (4, .long (lN (wv (G i.toNat) (G j.toNat) 0))), (3, .int (zI (((F (i.toNat) : Nat) : Int)))), (0, .ref y), (1, .int (zI (i))), (2, .int (zI (j)))]) hx hb dX7_weave_42 hl (by decide) rfl (fun ls hl => ?_)
        have lp44 : ∀ (NN : Nat) (k : Nat) (q1 : k ≤ F i.toNat), F i.toNat - k < NN → ∀ (H : Heap) (locs : List Loc), va_P D vwCl [oM y b (((R : Nat) : Int)) (fm) (kn) (pm0) (lm), aI t (b 0) 24 (cN F), aJ t (b 1) 24 (G)] H → va_D AA [oM y b (((R : Nat) : Int)) (fm) (kn) (pm0) (lm), aI t (b 0) 24 (cN F), aJ t (b 1) 24 (G)] → va_S AA s.heap H locs → ∀ (ls : Array Slot), lv_has ls 7 [(0, .ref y), (1, .int (zI (i))), (2, .int (zI (j))), (3, .int (zI (((F i.toNat : Nat) : Int)))), (4, .long (lN (wv (G i.toNat) (G j.toNat) k))), (6, .int (zI (k)))] → W p l e (headSpec wsX7_weave ({ frames := 3, cells := 0, slots := 0, locals := 68 })).room s m ([.ref y, .int (zI (i)), .int (zI (j))] : List Value).toArray below meth c H locs 0 0 (MQ below (va_Qi (fun r (u : RT) => r = zI (sp_weave R F G i j).1 ∧ u = (sp_weave R F G i j).2) (fun (u : RT) t1 => va_P D vwCl ([oM y b (((u.1 : Nat) : Int)) (fm) (kn) (pm0) (lm), aI t (b 0) 24 (cN (u.2.1)), aJ t (b 1) 24 (u.2.2)]) t1.heap ∧ va_K D vwCl (TY t) t1 ∧ va_D (AA) ([oM y b (((u.1 : Nat) : Int)) (fm) (kn) (pm0) (lm), aI t (b 0) 24 (cN (u.2.1)), aJ t (b 1) 24 (u.2.2)])) (AA)) ([.ref y, .int (zI (i)), .int (zI (j))] : List Value).toArray s 0 0 (AA)) (F0 m 44 ls []) := by
          intro NN
          induction NN with
          | zero =>
            intro k q1 hmu
            exact absurd hmu (Nat.not_lt_zero _)
          | succ NN ih44 =>
            intro k q1 hmu H locs hP hD hS ls hl
            refine lv_iload hx hb dX7_weave_44 (lv_at hl 5 rfl) ?_
            refine lv_iload_n hx hb dX7_weave_46 rfl (lv_at hl 3 rfl) ?_
            refine z_icmp_ge (tgt := 96) hx hb dX7_weave_47 (by decide) (by omega) (by omega) (fun c47 => ?_) (fun c47 => ?_)
            · refine lv_aload_n hx hb dX7_weave_96 rfl (lv_at hl 0 rfl) ?_
              refine lv_iconst (v := zI 2) hx hb dX7_weave_97 rfl ?_
              refine lv_iload_n hx hb dX7_weave_98 rfl (lv_at hl 3 rfl) ?_
              refine z_imul hx hb dX7_weave_99 ?_
              refine z_re (e2 := ((2 * F i.toNat : Nat) : Int)) (by omega) ?_
              refine lv_lload hx hb dX7_weave_100 (lv_at hl 4 rfl) ?_
              refine n_re (e2 := wv (G i.toNat) (G j.toNat) (F i.toNat)) (by rw [show k = F i.toNat by omega]) ?_
              have hPc := hP.sub (ws' := [oM y b (((R : Nat) : Int)) (fm) (kn) (pm0) (lm), aI t (b 0) 24 (cN F), aJ t (b 1) 24 (G)]) [0, 1, 2] rfl
              have hDc := hD.sub (ws' := [oM y b (((R : Nat) : Int)) (fm) (kn) (pm0) (lm), aI t (b 0) 24 (cN F), aJ t (b 1) 24 (G)]) [0, 1, 2] (by decide) rfl
              have hFc := va_free (wc := [oM y b (((R : Nat) : Int)) (fm) (kn) (pm0) (lm), aI t (b 0) 24 (cN F), aJ t (b 1) 24 (G)]) hD hS hA [0, 1, 2] rfl
              refine va_calli (va_runV (As := [.int (zI (((2 * F i.toNat : Nat) : Int))), .long (lN (wv (G i.toNat) (G j.toNat) (F i.toNat)))]) (rest := []) ⟨hx, hb, hml, hown, hts⟩ (c_X7_added l D t H.size y b (R) fm kn pm0 lm (F) (G) (by omega) (2 * F i.toNat) (wv (G i.toNat) (G j.toNat) (F i.toNat)) (by omega)) (cwV 2 hts gX7_weave_X7_added rfl rfl rfl (by decide +kernel) ⟨Nat.le_of_ble_eq_true rfl, Nat.le_of_ble_eq_true rfl⟩) ⟨fun a U g mk q => by obtain ⟨q0, q1, qP, qK, qD⟩ := q; exact ⟨q0, q1, qP, va_K.moved (u := U) (U := U.calling g mk a) (Vm.Alike.refl U.vm) qK, qD⟩, va_recv hK hPc (ci := 6) (q0 := 0) rfl rfl, fun U hU hW => ⟨rfl, by rw [hU], by rw [hU]; exact hPc, va_K.moved hW.alike hK, hDc.weaken (fun _ _ _ _ => trivial)⟩⟩ rfl rfl hl.1 rfl (lv_room (Nat.le_of_ble_eq_true rfl)) dX7_weave_102 ⟨Nat.le_of_ble_eq_true rfl, Nat.le_of_ble_eq_true rfl⟩) hS (fun q _ h => hFc q h) hFc (fun r u tq H1 locs ht hvm hr102 hB hz1 hk1 hS => ?_)
              obtain ⟨R2, F2, G2⟩ := u
              obtain ⟨hP1, hK1, hD1⟩ := hB
              rw [ht] at hP1
              obtain ⟨hP, hD⟩ := va_join (wr := []) (w1 := [oM y b (((R2 : Nat) : Int)) (fm) (kn) (pm0) (lm), aI t (b 0) 24 (cN (F2)), aJ t (b 1) 24 (G2)]) hP hD [0, 1, 2] [] rfl rfl (by decide) (by decide) hk1 hFc hP1 hD1
              generalize H1 = H at hP hS ⊢
              have hP : va_P D vwCl [oM y b (((R2 : Nat) : Int)) (fm) (kn) (pm0) (lm), aI t (b 0) 24 (cN (F2)), aJ t (b 1) 24 (G2)] H := hP
              have hD : va_D AA [oM y b (((R2 : Nat) : Int)) (fm) (kn) (pm0) (lm), aI t (b 0) 24 (cN (F2)), aJ t (b 1) 24 (G2)] := hD
              obtain ⟨rfl, hu⟩ := hr102
              obtain ⟨rfl, rfl, rfl⟩ : R2 = R + 1 ∧ F2 = va_up (F) (R) (2 * F i.toNat) ∧ G2 = va_up (G) (R) (wv (G i.toNat) (G j.toNat) (F i.toNat)) := ⟨congrArg (·.1) hu, congrArg (·.2.1) hu, congrArg (·.2.2) hu⟩
              have hP := hP.sub (ws' := [oM y b (((R + 1 : Nat) : Int)) (fm) (kn) (pm0) (lm), aI t (b 0) 24 (cN (va_up F R (2 * F i.toNat))), aJ t (b 1) 24 (va_up G R (wv (G i.toNat) (G j.toNat) (F i.toNat)))]) [0, 1, 2] rfl
              have hD := hD.sub (ws' := [oM y b (((R + 1 : Nat) : Int)) (fm) (kn) (pm0) (lm), aI t (b 0) 24 (cN (va_up F R (2 * F i.toNat))), aJ t (b 1) 24 (va_up G R (wv (G i.toNat) (G j.toNat) (F i.toNat)))]) [0, 1, 2] (by decide) rfl
              exact W.iret (v := (zI (((R : Nat) : Int)))) hx hb hr (fun tq ht hW => ⟨⟨_, (R + 1, va_up F R (2 * F i.toNat), va_up G R (wv (G i.toNat) (G j.toNat) (F i.toNat))), rfl, by rw [sp_weave, if_pos c6, sp_add_y (by omega)]; exact ⟨rfl, rfl⟩, by rw [ht]; exact hP, va_K.moved hW.alike hK, hD⟩, hS.F ht⟩) hS.2.2 dX7_weave_105
            · refine lv_lload hx hb dX7_weave_50 (lv_at hl 4 rfl) ?_
              refine lv_aload_n hx hb dX7_weave_52 rfl (lv_at hl 0 rfl) ?_
              refine va_get (D := D) (ci := 6) (v := .ref (b 1)) (C := RX7) (T := TX7) (N := 16) hx hb hts iX7 hown hK hP 0 rfl rfl 2 (by decide) (hts (.fieldLink RX7 13 "CancelRowsModel" "numbers" "[J") (by decide +kernel)) (fun _ h9 => h9) rfl dX7_weave_53 ?_
              refine lv_iload_n hx hb dX7_weave_56 rfl (lv_at hl 1 rfl) ?_
              refine l_lald hx hb hK hP 2 1 rfl rfl (i.toNat) (by omega) (by omega) (by omega) dX7_weave_57 ?_
              refine lv_iload hx hb dX7_weave_58 (lv_at hl 5 rfl) ?_
              refine n_lshr hx hb (q := k) (by omega) (by omega) dX7_weave_60 ?_
              refine lv_lconst (v := lN 1) hx hb dX7_weave_61 rfl ?_
              refine n_land hx hb dX7_weave_62 ?_
              refine n_re (e2 := ((G i.toNat).testBit k).toNat) (tbN _ k) ?_
              refine lv_iconst (v := zI 2) hx hb dX7_weave_63 rfl ?_
              refine lv_iload hx hb dX7_weave_64 (lv_at hl 5 rfl) ?_
              refine z_imul hx hb dX7_weave_66 ?_
              refine z_re (e2 := ((2 * k : Nat) : Int)) (by omega) ?_
              refine n_lshl hx hb (q := 2 * k) (by omega) dX7_weave_67 ?_
              refine lv_aload_n hx hb dX7_weave_68 rfl (lv_at hl 0 rfl) ?_
              refine va_get (D := D) (ci := 6) (v := .ref (b 1)) (C := RX7) (T := TX7) (N := 16) hx hb hts iX7 hown hK hP 0 rfl rfl 2 (by decide) (hts (.fieldLink RX7 13 "CancelRowsModel" "numbers" "[J") (by decide +kernel)) (fun _ h9 => h9) rfl dX7_weave_69 ?_
              refine lv_iload_n hx hb dX7_weave_72 rfl (lv_at hl 2 rfl) ?_
              refine l_lald hx hb hK hP 2 1 rfl rfl (j.toNat) (by omega) (by omega) (by omega) dX7_weave_73 ?_
              refine lv_iload hx hb dX7_weave_74 (lv_at hl 5 rfl) ?_
              refine n_lshr hx hb (q := k) (by omega) (by omega) dX7_weave_76 ?_
              refine lv_lconst (v := lN 1) hx hb dX7_weave_77 rfl ?_
              refine n_land hx hb dX7_weave_78 ?_
              refine n_re (e2 := ((G j.toNat).testBit k).toNat) (tbN _ k) ?_
              refine lv_iconst (v := zI 2) hx hb dX7_weave_79 rfl ?_
              refine lv_iload hx hb dX7_weave_80 (lv_at hl 5 rfl) ?_
              refine z_imul hx hb dX7_weave_82 ?_
              refine z_re (e2 := ((2 * k : Nat) : Int)) (by omega) ?_
              refine lv_iconst (v := zI 1) hx hb dX7_weave_83 rfl ?_
              refine z_iadd hx hb dX7_weave_84 ?_
              refine z_re (e2 := ((2 * k + 1 : Nat) : Int)) (by omega) ?_
              refine n_lshl hx hb (q := 2 * k + 1) (by omega) dX7_weave_85 ?_
              refine n_lor hx hb dX7_weave_86 ?_
              refine n_lor hx hb dX7_weave_87 ?_
              refine n_re (e2 := wv (G i.toNat) (G j.toNat) (k + 1)) (rfl) ?_
              refine lv_lstore (lv' := [(4, .long (lN (wv (G i.toNat) (G j.toNat) (k + 1)))), (0, .ref y), (1, .int (zI (i))), (2, .int (zI (j))), (3, .int (zI (((F i.toNat : Nat) : Int)))), (6, .int (zI (k)))]) hx hb dX7_weave_88 hl (by decide) rfl (fun ls hl => ?_)
              refine lv_iinc (v := zI (((k + 1 : Nat) : Int))) (lv' := [(6, .int (zI (((k + 1 : Nat) : Int)))), (4, .long (lN (wv (G i.toNat) (G j.toNat) (k + 1)))), (0, .ref y), (1, .int (zI (i))), (2, .int (zI (j))), (3, .int (zI (((F i.toNat : Nat) : Int))))]) hx hb dX7_weave_90 hl (k := 5) rfl (zI_incr (by omega)) (by decide) rfl (fun ls hl => ?_)
              refine lv_goto (tgt := 44) hx hb dX7_weave_93 (by decide) ?_
              exact ih44 (k + 1) (by omega) (by omega) _ _ hP hD hS _ (lv_sub hl [2, 3, 4, 5, 1, 0] rfl)
        exact lp44 _ (0) (by omega) (Nat.lt_succ_self _) _ _ hP hD hS _ (lv_sub hl [3, 4, 5, 2, 1, 0] rfl)
      · refine lv_bipush (v := zI (-3)) hx hb dX7_weave_35 (by decide +kernel) ?_
        have hP := hP.sub (ws' := [oM y b (((R : Nat) : Int)) (fm) (kn) (pm0) (lm), aI t (b 0) 24 (cN (F)), aJ t (b 1) 24 (G)]) [0, 1, 2] rfl
        have hD := hD.sub (ws' := [oM y b (((R : Nat) : Int)) (fm) (kn) (pm0) (lm), aI t (b 0) 24 (cN (F)), aJ t (b 1) 24 (G)]) [0, 1, 2] (by decide) rfl
        exact W.iret (v := (zI ((-3)))) hx hb hr (fun tq ht hW => ⟨⟨_, (R, F, G), rfl, by rw [sp_weave, if_pos c6, sp_add_n (by omega)]; exact ⟨rfl, rfl⟩, by rw [ht]; exact hP, va_K.moved hW.alike hK, hD⟩, hS.F ht⟩) hS.2.2 dX7_weave_37
  · refine lv_iconst (v := zI (-1)) hx hb dX7_weave_9 rfl ?_
    have hP := hP.sub (ws' := [oM y b (((R : Nat) : Int)) (fm) (kn) (pm0) (lm), aI t (b 0) 24 (cN (F)), aJ t (b 1) 24 (G)]) [0, 1, 2] rfl
    have hD := hD.sub (ws' := [oM y b (((R : Nat) : Int)) (fm) (kn) (pm0) (lm), aI t (b 0) 24 (cN (F)), aJ t (b 1) 24 (G)]) [0, 1, 2] (by decide) rfl
    exact W.iret (v := (zI ((-1)))) hx hb hr (fun tq ht hW => ⟨⟨_, (R, F, G), rfl, by rw [sp_weave, if_neg (c6)]; exact ⟨rfl, rfl⟩, by rw [ht]; exact hP, va_K.moved hW.alike hK, hD⟩, hS.F ht⟩) hS.2.2 dX7_weave_10

-- the check: times
set_option maxHeartbeats 4000000 in
set_option maxRecDepth 100000 in
theorem c_X7_times (l : Launch) (D : va_G) (t : Nat → ClassId) (sz : Nat) (y : Nat) (b : Nat → Nat) (R : Nat) (fm kn pm0 lm : Int) (F G : Nat → Nat) (gV : RV R F G) (i j : Int) (gi : -2147483648 ≤ i ∧ i < 2147483648) (gj : -2147483648 ≤ j ∧ j < 2147483648) : Met l yX7_times wsX7_times ({ frames := 2, cells := 0, slots := 0, locals := 46 }) (va_Pc [.ref y, .int (zI (i)), .int (zI (j))] (fun U => U.heap.size = sz ∧ va_P D vwCl ([oM y b (((R : Nat) : Int)) (fm) (kn) (pm0) (lm), aI t (b 0) 24 (cN F), aJ t (b 1) 24 (G)]) U.heap ∧ va_K D vwCl (TY t) U ∧ va_D (fun _ => True) ([oM y b (((R : Nat) : Int)) (fm) (kn) (pm0) (lm), aI t (b 0) 24 (cN F), aJ t (b 1) 24 (G)]))) (va_Qi (fun r (u : RT) => r = zI (sp_times R F G i j).1 ∧ u = (sp_times R F G i j).2) (fun (u : RT) t1 => va_P D vwCl ([oM y b (((u.1 : Nat) : Int)) (fm) (kn) (pm0) (lm), aI t (b 0) 24 (cN (u.2.1)), aJ t (b 1) 24 (u.2.2)]) t1.heap ∧ va_K D vwCl (TY t) t1 ∧ va_D (va_A ([oM y b (((R : Nat) : Int)) (fm) (kn) (pm0) (lm), aI t (b 0) 24 (cN F), aJ t (b 1) 24 (G)]) sz) ([oM y b (((u.1 : Nat) : Int)) (fm) (kn) (pm0) (lm), aI t (b 0) 24 (cN (u.2.1)), aJ t (b 1) 24 (u.2.2)])) (va_A ([oM y b (((R : Nat) : Int)) (fm) (kn) (pm0) (lm), aI t (b 0) 24 (cN F), aJ t (b 1) 24 (G)]) sz)) 0 0 (va_A ([oM y b (((R : Nat) : Int)) (fm) (kn) (pm0) (lm), aI t (b 0) 24 (cN F), aJ t (b 1) 24 (G)]) sz) := by
  refine Met.ofW (cc := cX7_times) (maxL := 7) (ret := (some .int)) (by decide) rfl ?_
  intro p e s m args below meth c s₁ B hml hv
  obtain ⟨rfl, hsz, hP, hK, hD0⟩ := hv
  have hx := B.exec
  have hb := B.bytes
  have hr := B.returns
  have hts := atoms_spec (ws := wsX7_times) B.pre
  have hown : s.vm.findClass RX7 = some m.cls := findClass_of_methodNamed B.named
  have hlocks := B.notSynchronized
  subst hsz
  have hD := hD0.self (sz := s.heap.size)
  generalize hAe : va_A ([oM y b (((R : Nat) : Int)) (fm) (kn) (pm0) (lm), aI t (b 0) 24 (cN F), aJ t (b 1) 24 (G)]) s.heap.size = AA at hD ⊢
  have hA : ∀ q : Nat, s.heap.size ≤ q → AA q := fun q h => by rw [← hAe]; exact Or.inr h
  have hS : va_S AA s.heap s.heap [] := va_S.rf
  have hP : va_P D vwCl ([oM y b (((R : Nat) : Int)) (fm) (kn) (pm0) (lm), aI t (b 0) 24 (cN F), aJ t (b 1) 24 (G)]) s.heap := hP
  have hl := lv_entry ([.ref y, .int (zI (i)), .int (zI (j))]) (n := 7) (Nat.le_of_ble_eq_true rfl)
  rw [lg_entry_eq]
  generalize (lg_sl ([.ref y, .int (zI (i)), .int (zI (j))]) ++ List.replicate (7 - (lg_sl ([.ref y, .int (zI (i)), .int (zI (j))])).length) Slot.unset).toArray = ls at hl ⊢
  have hl : lv_has ls 7 [(0, .ref y), (1, .int (zI (i))), (2, .int (zI (j)))] := hl
  have iX7 : ∀ w ∈ u_ws RX7 TX7 16, w ∈ wsX7_times := by decide +kernel
  have gR := gV.1
  refine lv_aload_n hx hb dX7_times_0 rfl (lv_at hl 0 rfl) ?_
  refine lv_iload_n hx hb dX7_times_1 rfl (lv_at hl 1 rfl) ?_
  have hPc := hP.sub (ws' := [oM y b (((R : Nat) : Int)) (fm) (kn) (pm0) (lm)]) [0] rfl
  refine vp_callSi (va_runV (As := [.int (zI (i))]) (rest := []) ⟨hx, hb, hml, hown, hts⟩ (c_X7_is l D t y b R fm kn pm0 lm gV.1 i gi) (cwV 1 hts gX7_times_X7_is rfl rfl rfl (by decide +kernel) ⟨Nat.le_of_ble_eq_true rfl, Nat.le_of_ble_eq_true rfl⟩) ⟨fun a U g mk q => ⟨q.1, q.2.1, va_K.moved (u := U) (U := U.calling g mk a) (Vm.Alike.refl U.vm) q.2.2⟩, va_recv hK hPc (ci := 6) (q0 := 0) rfl rfl, fun U hU hW => ⟨rfl, by rw [hU]; exact hPc, va_K.moved hW.alike hK⟩⟩ rfl rfl hl.1 rfl (lv_room (Nat.le_of_ble_eq_true rfl)) dX7_times_2 ⟨Nat.le_of_ble_eq_true rfl, Nat.le_of_ble_eq_true rfl⟩).run (fun r hr2 => ?_)
  obtain rfl := hr2
  refine z_ifb_eq (P := inR R (i)) (tgt := 16) hx hb dX7_times_5 (by decide) (fun c5 => ?_) (fun c5 => ?_)
  · refine lv_iconst (v := zI (-1)) hx hb dX7_times_16 rfl ?_
    have hP := hP.sub (ws' := [oM y b (((R : Nat) : Int)) (fm) (kn) (pm0) (lm), aI t (b 0) 24 (cN (F)), aJ t (b 1) 24 (G)]) [0, 1, 2] rfl
    have hD := hD.sub (ws' := [oM y b (((R : Nat) : Int)) (fm) (kn) (pm0) (lm), aI t (b 0) 24 (cN (F)), aJ t (b 1) 24 (G)]) [0, 1, 2] (by decide) rfl
    exact W.iret (v := (zI ((-1)))) hx hb hr (fun tq ht hW => ⟨⟨_, (R, F, G), rfl, by rw [sp_times, if_neg (fun z => c5 z.1)]; exact ⟨rfl, rfl⟩, by rw [ht]; exact hP, va_K.moved hW.alike hK, hD⟩, hS.F ht⟩) hS.2.2 dX7_times_17
  · have h1 := RV_at gV c5
    refine lv_aload_n hx hb dX7_times_8 rfl (lv_at hl 0 rfl) ?_
    refine lv_iload_n hx hb dX7_times_9 rfl (lv_at hl 2 rfl) ?_
    have hPc := hP.sub (ws' := [oM y b (((R : Nat) : Int)) (fm) (kn) (pm0) (lm)]) [0] rfl
    refine vp_callSi (va_runV (As := [.int (zI (j))]) (rest := []) ⟨hx, hb, hml, hown, hts⟩ (c_X7_is l D t y b R fm kn pm0 lm gV.1 j gj) (cwV 1 hts gX7_times_X7_is rfl rfl rfl (by decide +kernel) ⟨Nat.le_of_ble_eq_true rfl, Nat.le_of_ble_eq_true rfl⟩) ⟨fun a U g mk q => ⟨q.1, q.2.1, va_K.moved (u := U) (U := U.calling g mk a) (Vm.Alike.refl U.vm) q.2.2⟩, va_recv hK hPc (ci := 6) (q0 := 0) rfl rfl, fun U hU hW => ⟨rfl, by rw [hU]; exact hPc, va_K.moved hW.alike hK⟩⟩ rfl rfl hl.1 rfl (lv_room (Nat.le_of_ble_eq_true rfl)) dX7_times_10 ⟨Nat.le_of_ble_eq_true rfl, Nat.le_of_ble_eq_true rfl⟩).run (fun r hr10 => ?_)
    obtain rfl := hr10
    refine z_ifb_ne (P := inR R (j)) (tgt := 18) hx hb dX7_times_13 (by decide) (fun c13 => ?_) (fun c13 => ?_)
    · have h2 := RV_at gV c13
      have b1 : F i.toNat * F j.toNat ≤ 32 * 32 := Nat.mul_le_mul h1.2.1 h2.2.1
      have h3 := lt32 h1.2.2 h1.2.1
      have h4 := lt32 h2.2.2 h2.2.1
      refine lv_aload_n hx hb dX7_times_18 rfl (lv_at hl 0 rfl) ?_
      refine va_get (D := D) (ci := 6) (v := .ref (b 0)) (C := RX7) (T := TX7) (N := 16) hx hb hts iX7 hown hK hP 0 rfl rfl 1 (by decide) (hts (.fieldLink RX7 7 "CancelRowsModel" "lengths" "[I") (by decide +kernel)) (fun _ h9 => h9) rfl dX7_times_19 ?_
      refine lv_iload_n hx hb dX7_times_22 rfl (lv_at hl 2 rfl) ?_
      refine z_iald hx hb hK hP 1 0 rfl rfl (j.toNat) (by omega) (by omega) (by omega) dX7_times_23 ?_
      refine z_re (e2 := ((F (j.toNat) : Nat) : Int)) (rfl) ?_
      refine lv_istore_n (lv' := [(3, .int (zI (((F (j.toNat) : Nat) : Int)))), (0, .ref y), (1, .int (zI (i))), (2, .int (zI (j)))]) hx hb dX7_times_24 rfl hl (by decide) rfl (fun ls hl => ?_)
      refine lv_aload_n hx hb dX7_times_25 rfl (lv_at hl 1 rfl) ?_
      refine va_get (D := D) (ci := 6) (v := .int (zI (((R : Nat) : Int)))) (C := RX7) (T := TX7) (N := 16) hx hb hts iX7 hown hK hP 0 rfl rfl 0 (by decide) (hts (.fieldLink RX7 49 "CancelRowsModel" "many" "I") (by decide +kernel)) (fun _ h9 => h9) rfl dX7_times_26 ?_
      refine lv_bipush (v := zI 24) hx hb dX7_times_29 (by decide +kernel) ?_
      refine z_icmp_eq (tgt := 47) hx hb dX7_times_31 (by decide) (by omega) (by omega) (fun c31 => ?_) (fun c31 => ?_)
      · refine lv_bipush (v := zI (-3)) hx hb dX7_times_47 (by decide +kernel) ?_
        have hP := hP.sub (ws' := [oM y b (((R : Nat) : Int)) (fm) (kn) (pm0) (lm), aI t (b 0) 24 (cN (F)), aJ t (b 1) 24 (G)]) [0, 1, 2] rfl
        have hD := hD.sub (ws' := [oM y b (((R : Nat) : Int)) (fm) (kn) (pm0) (lm), aI t (b 0) 24 (cN (F)), aJ t (b 1) 24 (G)]) [0, 1, 2] (by decide) rfl
        exact W.iret (v := (zI ((-3)))) hx hb hr (fun tq ht hW => ⟨⟨_, (R, F, G), rfl, by rw [sp_times, if_pos ⟨c5, c13⟩, sp_add_n (by omega)]; exact ⟨rfl, rfl⟩, by rw [ht]; exact hP, va_K.moved hW.alike hK, hD⟩, hS.F ht⟩) hS.2.2 dX7_times_49
      · refine lv_aload_n hx hb dX7_times_34 rfl (lv_at hl 1 rfl) ?_
        refine va_get (D := D) (ci := 6) (v := .ref (b 0)) (C := RX7) (T := TX7) (N := 16) hx hb hts iX7 hown hK hP 0 rfl rfl 1 (by decide) (hts (.fieldLink RX7 7 "CancelRowsModel" "lengths" "[I") (by decide +kernel)) (fun _ h9 => h9) rfl dX7_times_35 ?_
        refine lv_iload_n hx hb dX7_times_38 rfl (lv_at hl 2 rfl) ?_
        refine z_iald hx hb hK hP 1 0 rfl rfl (i.toNat) (by omega) (by omega) (by omega) dX7_times_39 ?_
        refine z_re (e2 := ((F (i.toNat) : Nat) : Int)) (rfl) ?_
        refine lv_iload_n hx hb dX7_times_40 rfl (lv_at hl 0 rfl) ?_
        refine z_imul hx hb dX7_times_41 ?_
        refine z_re (e2 := ((F i.toNat * F j.toNat : Nat) : Int)) (by rw [Int.natCast_mul]) ?_
        refine lv_bipush (v := zI 32) hx hb dX7_times_42 (by decide +kernel) ?_
        refine z_icmp_le (tgt := 50) hx hb dX7_times_44 (by decide) (by omega) (by omega) (fun c44 => ?_) (fun c44 => ?_)
        · refine lv_lconst (v := lN 0) hx hb dX7_times_50 rfl ?_
          refine n_re (e2 := pd (G i.toNat) (G j.toNat) (F j.toNat) 0) (rfl) ?_
          refine lv_lstore (lv' := [(4, .long (lN (pd (G i.toNat) (G j.toNat) (F j.toNat) 0))), (3, .int (zI (((F (j.toNat) : Nat) : Int)))), (0, .ref y), (1, .int (zI (i))), (2, .int (zI (j)))]) hx hb dX7_times_51 hl (by decide) rfl (fun ls hl => ?_)
          refine lv_iconst (v := zI 0) hx hb dX7_times_53 rfl ?_
          refine z_re (e2 := ((0 : Nat) : Int)) (rfl) ?_
          refine lv_istore (lv' := [(6, .int (zI (((0 : Nat) : Int)))), (4, .long (lN (pd (G i.toNat) (G j.toNat) (F j.toNat) 0))), (3, .int (zI (((F (j.toNat) : Nat) : Int)))), (0, .ref y), (1, .int (zI (i))), (2, .int (zI (j)))]) hx hb dX7_times_54 hl (by decide) rfl (fun ls hl => ?_)
          have lp56 : ∀ (NN : Nat) (k : Nat) (q1 : k ≤ F i.toNat * F j.toNat), F i.toNat * F j.toNat - k < NN → ∀ (H : Heap) (locs : List Loc), va_P D vwCl [oM y b (((R : Nat) : Int)) (fm) (kn) (pm0) (lm), aI t (b 0) 24 (cN F), aJ t (b 1) 24 (G)] H → va_D AA [oM y b (((R : Nat) : Int)) (fm) (kn) (pm0) (lm), aI t (b 0) 24 (cN F), aJ t (b 1) 24 (G)] → va_S AA s.heap H locs → ∀ (ls : Array Slot), lv_has ls 7 [(0, .ref y), (1, .int (zI (i))), (2, .int (zI (j))), (3, .int (zI (((F j.toNat : Nat) : Int)))), (4, .long (lN (pd (G i.toNat) (G j.toNat) (F j.toNat) k))), (6, .int (zI (k)))] → W p l e (headSpec wsX7_times ({ frames := 2, cells := 0, slots := 0, locals := 46 })).room s m ([.ref y, .int (zI (i)), .int (zI (j))] : List Value).toArray below meth c H locs 0 0 (MQ below (va_Qi (fun r (u : RT) => r = zI (sp_times R F G i j).1 ∧ u = (sp_times R F G i j).2) (fun (u : RT) t1 => va_P D vwCl ([oM y b (((u.1 : Nat) : Int)) (fm) (kn) (pm0) (lm), aI t (b 0) 24 (cN (u.2.1)), aJ t (b 1) 24 (u.2.2)]) t1.heap ∧ va_K D vwCl (TY t) t1 ∧ va_D (AA) ([oM y b (((u.1 : Nat) : Int)) (fm) (kn) (pm0) (lm), aI t (b 0) 24 (cN (u.2.1)), aJ t (b 1) 24 (u.2.2)])) (AA)) ([.ref y, .int (zI (i)), .int (zI (j))] : List Value).toArray s 0 0 (AA)) (F0 m 56 ls []) := by
            intro NN
            induction NN with
            | zero =>
              intro k q1 hmu
              exact absurd hmu (Nat.not_lt_zero _)
            | succ NN ih56 =>
              intro k q1 hmu H locs hP hD hS ls hl
              have b3 : k / F j.toNat ≤ k := Nat.div_le_self k _
              have b4 : k % F j.toNat < F j.toNat := Nat.mod_lt k (by omega)
              have b5 := sg_or (pdF (G i.toNat) (G j.toNat) (F j.toNat) k)
              refine lv_iload hx hb dX7_times_56 (lv_at hl 5 rfl) ?_
              refine lv_aload_n hx hb dX7_times_58 rfl (lv_at hl 0 rfl) ?_
              refine va_get (D := D) (ci := 6) (v := .ref (b 0)) (C := RX7) (T := TX7) (N := 16) hx hb hts iX7 hown hK hP 0 rfl rfl 1 (by decide) (hts (.fieldLink RX7 7 "CancelRowsModel" "lengths" "[I") (by decide +kernel)) (fun _ h9 => h9) rfl dX7_times_59 ?_
              refine lv_iload_n hx hb dX7_times_62 rfl (lv_at hl 1 rfl) ?_
              refine z_iald hx hb hK hP 1 0 rfl rfl (i.toNat) (by omega) (by omega) (by omega) dX7_times_63 ?_
              refine z_re (e2 := ((F (i.toNat) : Nat) : Int)) (rfl) ?_
              refine lv_iload_n hx hb dX7_times_64 rfl (lv_at hl 3 rfl) ?_
              refine z_imul hx hb dX7_times_65 ?_
              refine z_re (e2 := ((F i.toNat * F j.toNat : Nat) : Int)) (by rw [Int.natCast_mul]) ?_
              refine z_icmp_ge (tgt := 118) hx hb dX7_times_66 (by decide) (by omega) (by omega) (fun c66 => ?_) (fun c66 => ?_)
              · refine lv_aload_n hx hb dX7_times_118 rfl (lv_at hl 0 rfl) ?_
                refine lv_aload_n hx hb dX7_times_119 rfl (lv_at hl 0 rfl) ?_
                refine va_get (D := D) (ci := 6) (v := .ref (b 0)) (C := RX7) (T := TX7) (N := 16) hx hb hts iX7 hown hK hP 0 rfl rfl 1 (by decide) (hts (.fieldLink RX7 7 "CancelRowsModel" "lengths" "[I") (by decide +kernel)) (fun _ h9 => h9) rfl dX7_times_120 ?_
                refine lv_iload_n hx hb dX7_times_123 rfl (lv_at hl 1 rfl) ?_
                refine z_iald hx hb hK hP 1 0 rfl rfl (i.toNat) (by omega) (by omega) (by omega) dX7_times_124 ?_
                refine z_re (e2 := ((F (i.toNat) : Nat) : Int)) (rfl) ?_
                refine lv_iload_n hx hb dX7_times_125 rfl (lv_at hl 3 rfl) ?_
                refine z_imul hx hb dX7_times_126 ?_
                refine z_re (e2 := ((F i.toNat * F j.toNat : Nat) : Int)) (by rw [Int.natCast_mul]) ?_
                refine lv_lload hx hb dX7_times_127 (lv_at hl 4 rfl) ?_
                refine n_re (e2 := pd (G i.toNat) (G j.toNat) (F j.toNat) (F i.toNat * F j.toNat)) (by rw [show k = F i.toNat * F j.toNat by omega]) ?_
                have hPc := hP.sub (ws' := [oM y b (((R : Nat) : Int)) (fm) (kn) (pm0) (lm), aI t (b 0) 24 (cN F), aJ t (b 1) 24 (G)]) [0, 1, 2] rfl
                have hDc := hD.sub (ws' := [oM y b (((R : Nat) : Int)) (fm) (kn) (pm0) (lm), aI t (b 0) 24 (cN F), aJ t (b 1) 24 (G)]) [0, 1, 2] (by decide) rfl
                have hFc := va_free (wc := [oM y b (((R : Nat) : Int)) (fm) (kn) (pm0) (lm), aI t (b 0) 24 (cN F), aJ t (b 1) 24 (G)]) hD hS hA [0, 1, 2] rfl
                refine va_calli (va_runV (As := [.int (zI (((F i.toNat * F j.toNat : Nat) : Int))), .long (lN (pd (G i.toNat) (G j.toNat) (F j.toNat) (F i.toNat * F j.toNat)))]) (rest := []) ⟨hx, hb, hml, hown, hts⟩ (c_X7_added l D t H.size y b (R) fm kn pm0 lm (F) (G) (by omega) (F i.toNat * F j.toNat) (pd (G i.toNat) (G j.toNat) (F j.toNat) (F i.toNat * F j.toNat)) (by omega)) (cwV 2 hts gX7_times_X7_added rfl rfl rfl (by decide +kernel) ⟨Nat.le_of_ble_eq_true rfl, Nat.le_of_ble_eq_true rfl⟩) ⟨fun a U g mk q => by obtain ⟨q0, q1, qP, qK, qD⟩ := q; exact ⟨q0, q1, qP, va_K.moved (u := U) (U := U.calling g mk a) (Vm.Alike.refl U.vm) qK, qD⟩, va_recv hK hPc (ci := 6) (q0 := 0) rfl rfl, fun U hU hW => ⟨rfl, by rw [hU], by rw [hU]; exact hPc, va_K.moved hW.alike hK, hDc.weaken (fun _ _ _ _ => trivial)⟩⟩ rfl rfl hl.1 rfl (lv_room (Nat.le_of_ble_eq_true rfl)) dX7_times_129 ⟨Nat.le_of_ble_eq_true rfl, Nat.le_of_ble_eq_true rfl⟩) hS (fun q _ h => hFc q h) hFc (fun r u tq H1 locs ht hvm hr129 hB hz1 hk1 hS => ?_)
                obtain ⟨R2, F2, G2⟩ := u
                obtain ⟨hP1, hK1, hD1⟩ := hB
                rw [ht] at hP1
                obtain ⟨hP, hD⟩ := va_join (wr := []) (w1 := [oM y b (((R2 : Nat) : Int)) (fm) (kn) (pm0) (lm), aI t (b 0) 24 (cN (F2)), aJ t (b 1) 24 (G2)]) hP hD [0, 1, 2] [] rfl rfl (by decide) (by decide) hk1 hFc hP1 hD1
                generalize H1 = H at hP hS ⊢
                have hP : va_P D vwCl [oM y b (((R2 : Nat) : Int)) (fm) (kn) (pm0) (lm), aI t (b 0) 24 (cN (F2)), aJ t (b 1) 24 (G2)] H := hP
                have hD : va_D AA [oM y b (((R2 : Nat) : Int)) (fm) (kn) (pm0) (lm), aI t (b 0) 24 (cN (F2)), aJ t (b 1) 24 (G2)] := hD
                obtain ⟨rfl, hu⟩ := hr129
                obtain ⟨rfl, rfl, rfl⟩ : R2 = R + 1 ∧ F2 = va_up (F) (R) (F i.toNat * F j.toNat) ∧ G2 = va_up (G) (R) (pd (G i.toNat) (G j.toNat) (F j.toNat) (F i.toNat * F j.toNat)) := ⟨congrArg (·.1) hu, congrArg (·.2.1) hu, congrArg (·.2.2) hu⟩
                have hP := hP.sub (ws' := [oM y b (((R + 1 : Nat) : Int)) (fm) (kn) (pm0) (lm), aI t (b 0) 24 (cN (va_up F R (F i.toNat * F j.toNat))), aJ t (b 1) 24 (va_up G R (pd (G i.toNat) (G j.toNat) (F j.toNat) (F i.toNat * F j.toNat)))]) [0, 1, 2] rfl
                have hD := hD.sub (ws' := [oM y b (((R + 1 : Nat) : Int)) (fm) (kn) (pm0) (lm), aI t (b 0) 24 (cN (va_up F R (F i.toNat * F j.toNat))), aJ t (b 1) 24 (va_up G R (pd (G i.toNat) (G j.toNat) (F j.toNat) (F i.toNat * F j.toNat)))]) [0, 1, 2] (by decide) rfl
                exact W.iret (v := (zI (((R : Nat) : Int)))) hx hb hr (fun tq ht hW => ⟨⟨_, (R + 1, va_up F R (F i.toNat * F j.toNat), va_up G R (pd (G i.toNat) (G j.toNat) (F j.toNat) (F i.toNat * F j.toNat))), rfl, by rw [sp_times, if_pos ⟨c5, c13⟩, sp_add_y (by omega)]; exact ⟨rfl, rfl⟩, by rw [ht]; exact hP, va_K.moved hW.alike hK, hD⟩, hS.F ht⟩) hS.2.2 dX7_times_132
              · refine lv_lload hx hb dX7_times_69 (lv_at hl 4 rfl) ?_
                refine lv_aload_n hx hb dX7_times_71 rfl (lv_at hl 0 rfl) ?_
                refine va_get (D := D) (ci := 6) (v := .ref (b 1)) (C := RX7) (T := TX7) (N := 16) hx hb hts iX7 hown hK hP 0 rfl rfl 2 (by decide) (hts (.fieldLink RX7 13 "CancelRowsModel" "numbers" "[J") (by decide +kernel)) (fun _ h9 => h9) rfl dX7_times_72 ?_
                refine lv_iload_n hx hb dX7_times_75 rfl (lv_at hl 1 rfl) ?_
                refine l_lald hx hb hK hP 2 1 rfl rfl (i.toNat) (by omega) (by omega) (by omega) dX7_times_76 ?_
                refine lv_iload hx hb dX7_times_77 (lv_at hl 5 rfl) ?_
                refine lv_iload_n hx hb dX7_times_79 rfl (lv_at hl 3 rfl) ?_
                refine z_idiv hx hb (by omega) (by omega) dX7_times_80 ?_
                refine z_re (e2 := ((k / F j.toNat : Nat) : Int)) (by rw [Int.natCast_ediv]) ?_
                refine vp_callSi (va_runS (As := [.long (lN ((G) (i.toNat))), .int (zI (((k / F j.toNat : Nat) : Int)))]) (rest := [.long (lN (pd (G i.toNat) (G j.toNat) (F j.toNat) k))]) ⟨hx, hb, hml, hown, hts⟩ (c_X7_at l (G i.toNat) (k / F j.toNat) h3 (by omega)) (va_cwS 2 hts gX7_times_X7_at rfl rfl rfl (by decide +kernel) ⟨Nat.le_of_ble_eq_true rfl, Nat.le_of_ble_eq_true rfl⟩) ⟨fun a U g mk q => q, fun U hU hW => ⟨rfl, trivial⟩⟩ rfl rfl hl.1 rfl (lv_room (Nat.le_of_ble_eq_true rfl)) dX7_times_81 ⟨Nat.le_of_ble_eq_true rfl, Nat.le_of_ble_eq_true rfl⟩).run (fun r hr81 => ?_)
                obtain rfl := hr81
                refine lv_aload_n hx hb dX7_times_84 rfl (lv_at hl 0 rfl) ?_
                refine va_get (D := D) (ci := 6) (v := .ref (b 1)) (C := RX7) (T := TX7) (N := 16) hx hb hts iX7 hown hK hP 0 rfl rfl 2 (by decide) (hts (.fieldLink RX7 13 "CancelRowsModel" "numbers" "[J") (by decide +kernel)) (fun _ h9 => h9) rfl dX7_times_85 ?_
                refine lv_iload_n hx hb dX7_times_88 rfl (lv_at hl 2 rfl) ?_
                refine l_lald hx hb hK hP 2 1 rfl rfl (j.toNat) (by omega) (by omega) (by omega) dX7_times_89 ?_
                refine lv_iload hx hb dX7_times_90 (lv_at hl 5 rfl) ?_
                refine lv_iload_n hx hb dX7_times_92 rfl (lv_at hl 3 rfl) ?_
                refine z_irem hx hb (by omega) (by omega) dX7_times_93 ?_
                refine z_re (e2 := ((k % F j.toNat : Nat) : Int)) (by rw [Int.natCast_emod]) ?_
                refine vp_callSi (va_runS (As := [.long (lN ((G) (j.toNat))), .int (zI (((k % F j.toNat : Nat) : Int)))]) (rest := [.int (zI (pm ((G) (i.toNat)) (k / F j.toNat))), .long (lN (pd (G i.toNat) (G j.toNat) (F j.toNat) k))]) ⟨hx, hb, hml, hown, hts⟩ (c_X7_at l (G j.toNat) (k % F j.toNat) h4 (by omega)) (va_cwS 2 hts gX7_times_X7_at rfl rfl rfl (by decide +kernel) ⟨Nat.le_of_ble_eq_true rfl, Nat.le_of_ble_eq_true rfl⟩) ⟨fun a U g mk q => q, fun U hU hW => ⟨rfl, trivial⟩⟩ rfl rfl hl.1 rfl (lv_room (Nat.le_of_ble_eq_true rfl)) dX7_times_94 ⟨Nat.le_of_ble_eq_true rfl, Nat.le_of_ble_eq_true rfl⟩).run (fun r hr94 => ?_)
                obtain rfl := hr94
                refine z_imul hx hb dX7_times_97 ?_
                refine z_re (e2 := sg (pdF (G i.toNat) (G j.toNat) (F j.toNat) k)) (pd_pm _ _ _ _) ?_
                refine z_if_ge (tgt := 108) hx hb dX7_times_98 (by decide) (by omega) (fun c98 => ?_) (fun c98 => ?_)
                · refine lv_lconst (v := lN 0) hx hb dX7_times_108 rfl ?_
                  refine n_lor hx hb dX7_times_109 ?_
                  refine n_re (e2 := pd (G i.toNat) (G j.toNat) (F j.toNat) (k + 1)) (pd_0 c98) ?_
                  refine lv_lstore (lv' := [(4, .long (lN (pd (G i.toNat) (G j.toNat) (F j.toNat) (k + 1)))), (0, .ref y), (1, .int (zI (i))), (2, .int (zI (j))), (3, .int (zI (((F j.toNat : Nat) : Int)))), (6, .int (zI (k)))]) hx hb dX7_times_110 hl (by decide) rfl (fun ls hl => ?_)
                  refine lv_iinc (v := zI (((k + 1 : Nat) : Int))) (lv' := [(6, .int (zI (((k + 1 : Nat) : Int)))), (4, .long (lN (pd (G i.toNat) (G j.toNat) (F j.toNat) (k + 1)))), (0, .ref y), (1, .int (zI (i))), (2, .int (zI (j))), (3, .int (zI (((F j.toNat : Nat) : Int))))]) hx hb dX7_times_112 hl (k := 5) rfl (zI_incr (by omega)) (by decide) rfl (fun ls hl => ?_)
                  refine lv_goto (tgt := 56) hx hb dX7_times_115 (by decide) ?_
                  exact ih56 (k + 1) (by omega) (by omega) _ _ hP hD hS _ (lv_sub hl [2, 3, 4, 5, 1, 0] rfl)
                · refine lv_lconst (v := lN 1) hx hb dX7_times_101 rfl ?_
                  refine lv_iload hx hb dX7_times_102 (lv_at hl 5 rfl) ?_
                  refine n_lshl hx hb (q := k) (by omega) dX7_times_104 ?_
                  refine lv_goto (tgt := 109) hx hb dX7_times_105 (by decide) ?_
                  refine n_lor hx hb dX7_times_109 ?_
                  refine n_re (e2 := pd (G i.toNat) (G j.toNat) (F j.toNat) (k + 1)) (pd_1 c98) ?_
                  refine lv_lstore (lv' := [(4, .long (lN (pd (G i.toNat) (G j.toNat) (F j.toNat) (k + 1)))), (0, .ref y), (1, .int (zI (i))), (2, .int (zI (j))), (3, .int (zI (((F j.toNat : Nat) : Int)))), (6, .int (zI (k)))]) hx hb dX7_times_110 hl (by decide) rfl (fun ls hl => ?_)
                  refine lv_iinc (v := zI (((k + 1 : Nat) : Int))) (lv' := [(6, .int (zI (((k + 1 : Nat) : Int)))), (4, .long (lN (pd (G i.toNat) (G j.toNat) (F j.toNat) (k + 1)))), (0, .ref y), (1, .int (zI (i))), (2, .int (zI (j))), (3, .int (zI (((F j.toNat : Nat) : Int))))]) hx hb dX7_times_112 hl (k := 5) rfl (zI_incr (by omega)) (by decide) rfl (fun ls hl => ?_)
                  refine lv_goto (tgt := 56) hx hb dX7_times_115 (by decide) ?_
                  exact ih56 (k + 1) (by omega) (by omega) _ _ hP hD hS _ (lv_sub hl [2, 3, 4, 5, 1, 0] rfl)
          exact lp56 _ (0) (by omega) (Nat.lt_succ_self _) _ _ hP hD hS _ (lv_sub hl [3, 4, 5, 2, 1, 0] rfl)
        · refine lv_bipush (v := zI (-3)) hx hb dX7_times_47 (by decide +kernel) ?_
          have hP := hP.sub (ws' := [oM y b (((R : Nat) : Int)) (fm) (kn) (pm0) (lm), aI t (b 0) 24 (cN (F)), aJ t (b 1) 24 (G)]) [0, 1, 2] rfl
          have hD := hD.sub (ws' := [oM y b (((R : Nat) : Int)) (fm) (kn) (pm0) (lm), aI t (b 0) 24 (cN (F)), aJ t (b 1) 24 (G)]) [0, 1, 2] (by decide) rfl
          exact W.iret (v := (zI ((-3)))) hx hb hr (fun tq ht hW => ⟨⟨_, (R, F, G), rfl, by rw [sp_times, if_pos ⟨c5, c13⟩, sp_add_n (by omega)]; exact ⟨rfl, rfl⟩, by rw [ht]; exact hP, va_K.moved hW.alike hK, hD⟩, hS.F ht⟩) hS.2.2 dX7_times_49
    · refine lv_iconst (v := zI (-1)) hx hb dX7_times_16 rfl ?_
      have hP := hP.sub (ws' := [oM y b (((R : Nat) : Int)) (fm) (kn) (pm0) (lm), aI t (b 0) 24 (cN (F)), aJ t (b 1) 24 (G)]) [0, 1, 2] rfl
      have hD := hD.sub (ws' := [oM y b (((R : Nat) : Int)) (fm) (kn) (pm0) (lm), aI t (b 0) 24 (cN (F)), aJ t (b 1) 24 (G)]) [0, 1, 2] (by decide) rfl
      exact W.iret (v := (zI ((-1)))) hx hb hr (fun tq ht hW => ⟨⟨_, (R, F, G), rfl, by rw [sp_times, if_neg (fun z => c13 z.2)]; exact ⟨rfl, rfl⟩, by rw [ht]; exact hP, va_K.moved hW.alike hK, hD⟩, hS.F ht⟩) hS.2.2 dX7_times_17

-- the check: doubled
set_option maxHeartbeats 4000000 in
set_option maxRecDepth 100000 in
theorem c_X7_doubled (l : Launch) (D : va_G) (t : Nat → ClassId) (sz : Nat) (y : Nat) (b : Nat → Nat) (R : Nat) (fm kn pm0 lm : Int) (F G : Nat → Nat) (gV : RV R F G) (i j : Int) (gi : -2147483648 ≤ i ∧ i < 2147483648) (gj : -2147483648 ≤ j ∧ j < 2147483648) : Met l yX7_doubled wsX7_doubled ({ frames := 3, cells := 0, slots := 0, locals := 68 }) (va_Pc [.ref y, .int (zI (i)), .int (zI (j))] (fun U => U.heap.size = sz ∧ va_P D vwCl ([oM y b (((R : Nat) : Int)) (fm) (kn) (pm0) (lm), aI t (b 0) 24 (cN F), aJ t (b 1) 24 (G)]) U.heap ∧ va_K D vwCl (TY t) U ∧ va_D (fun _ => True) ([oM y b (((R : Nat) : Int)) (fm) (kn) (pm0) (lm), aI t (b 0) 24 (cN F), aJ t (b 1) 24 (G)]))) (va_Qi (fun r (u : RT) => r = zI (sp_doubled R F G i j).1 ∧ u = (sp_doubled R F G i j).2) (fun (u : RT) t1 => va_P D vwCl ([oM y b (((u.1 : Nat) : Int)) (fm) (kn) (pm0) (lm), aI t (b 0) 24 (cN (u.2.1)), aJ t (b 1) 24 (u.2.2)]) t1.heap ∧ va_K D vwCl (TY t) t1 ∧ va_D (va_A ([oM y b (((R : Nat) : Int)) (fm) (kn) (pm0) (lm), aI t (b 0) 24 (cN F), aJ t (b 1) 24 (G)]) sz) ([oM y b (((u.1 : Nat) : Int)) (fm) (kn) (pm0) (lm), aI t (b 0) 24 (cN (u.2.1)), aJ t (b 1) 24 (u.2.2)])) (va_A ([oM y b (((R : Nat) : Int)) (fm) (kn) (pm0) (lm), aI t (b 0) 24 (cN F), aJ t (b 1) 24 (G)]) sz)) 0 0 (va_A ([oM y b (((R : Nat) : Int)) (fm) (kn) (pm0) (lm), aI t (b 0) 24 (cN F), aJ t (b 1) 24 (G)]) sz) := by
  refine Met.ofW (cc := cX7_doubled) (maxL := 10) (ret := (some .int)) (by decide) rfl ?_
  intro p e s m args below meth c s₁ B hml hv
  obtain ⟨rfl, hsz, hP, hK, hD0⟩ := hv
  have hx := B.exec
  have hb := B.bytes
  have hr := B.returns
  have hts := atoms_spec (ws := wsX7_doubled) B.pre
  have hown : s.vm.findClass RX7 = some m.cls := findClass_of_methodNamed B.named
  have hlocks := B.notSynchronized
  subst hsz
  have hD := hD0.self (sz := s.heap.size)
  generalize hAe : va_A ([oM y b (((R : Nat) : Int)) (fm) (kn) (pm0) (lm), aI t (b 0) 24 (cN F), aJ t (b 1) 24 (G)]) s.heap.size = AA at hD ⊢
  have hA : ∀ q : Nat, s.heap.size ≤ q → AA q := fun q h => by rw [← hAe]; exact Or.inr h
  have hS : va_S AA s.heap s.heap [] := va_S.rf
  have hP : va_P D vwCl ([oM y b (((R : Nat) : Int)) (fm) (kn) (pm0) (lm), aI t (b 0) 24 (cN F), aJ t (b 1) 24 (G)]) s.heap := hP
  have hl := lv_entry ([.ref y, .int (zI (i)), .int (zI (j))]) (n := 10) (Nat.le_of_ble_eq_true rfl)
  rw [lg_entry_eq]
  generalize (lg_sl ([.ref y, .int (zI (i)), .int (zI (j))]) ++ List.replicate (10 - (lg_sl ([.ref y, .int (zI (i)), .int (zI (j))])).length) Slot.unset).toArray = ls at hl ⊢
  have hl : lv_has ls 10 [(0, .ref y), (1, .int (zI (i))), (2, .int (zI (j)))] := hl
  have iX7 : ∀ w ∈ u_ws RX7 TX7 16, w ∈ wsX7_doubled := by decide +kernel
  have gR := gV.1
  refine lv_aload_n hx hb dX7_doubled_0 rfl (lv_at hl 0 rfl) ?_
  refine lv_iload_n hx hb dX7_doubled_1 rfl (lv_at hl 1 rfl) ?_
  refine lv_iload_n hx hb dX7_doubled_2 rfl (lv_at hl 2 rfl) ?_
  have hPc := hP.sub (ws' := [oM y b (((R : Nat) : Int)) (fm) (kn) (pm0) (lm), aI t (b 0) 24 (cN F)]) [0, 1] rfl
  refine vp_callSi (va_runV (As := [.int (zI (i)), .int (zI (j))]) (rest := []) ⟨hx, hb, hml, hown, hts⟩ (c_X7_areLike l D t y b R fm kn pm0 lm F G gV i j gi gj) (cwV 2 hts gX7_doubled_X7_areLike rfl rfl rfl (by decide +kernel) ⟨Nat.le_of_ble_eq_true rfl, Nat.le_of_ble_eq_true rfl⟩) ⟨fun a U g mk q => ⟨q.1, q.2.1, va_K.moved (u := U) (U := U.calling g mk a) (Vm.Alike.refl U.vm) q.2.2⟩, va_recv hK hPc (ci := 6) (q0 := 0) rfl rfl, fun U hU hW => ⟨rfl, by rw [hU]; exact hPc, va_K.moved hW.alike hK⟩⟩ rfl rfl hl.1 rfl (lv_room (Nat.le_of_ble_eq_true rfl)) dX7_doubled_3 ⟨Nat.le_of_ble_eq_true rfl, Nat.le_of_ble_eq_true rfl⟩).run (fun r hr3 => ?_)
  obtain rfl := hr3
  refine z_ifb_ne (P := inR R (i) ∧ inR R (j) ∧ F (i).toNat = F (j).toNat) (tgt := 11) hx hb dX7_doubled_6 (by decide) (fun c6 => ?_) (fun c6 => ?_)
  · have h1 := RV_at gV c6.1
    have h2 := RV_at gV c6.2.1
    have h3 := lt32 h1.2.2 h1.2.1
    have h4 := lt32 h2.2.2 h2.2.1
    refine lv_aload_n hx hb dX7_doubled_11 rfl (lv_at hl 0 rfl) ?_
    refine va_get (D := D) (ci := 6) (v := .ref (b 0)) (C := RX7) (T := TX7) (N := 16) hx hb hts iX7 hown hK hP 0 rfl rfl 1 (by decide) (hts (.fieldLink RX7 7 "CancelRowsModel" "lengths" "[I") (by decide +kernel)) (fun _ h9 => h9) rfl dX7_doubled_12 ?_
    refine lv_iload_n hx hb dX7_doubled_15 rfl (lv_at hl 1 rfl) ?_
    refine z_iald hx hb hK hP 1 0 rfl rfl (i.toNat) (by omega) (by omega) (by omega) dX7_doubled_16 ?_
    refine z_re (e2 := ((F (i.toNat) : Nat) : Int)) (rfl) ?_
    refine lv_istore_n (lv' := [(3, .int (zI (((F (i.toNat) : Nat) : Int)))), (0, .ref y), (1, .int (zI (i))), (2, .int (zI (j)))]) hx hb dX7_doubled_17 rfl hl (by decide) rfl (fun ls hl => ?_)
    refine lv_aload_n hx hb dX7_doubled_18 rfl (lv_at hl 1 rfl) ?_
    refine va_get (D := D) (ci := 6) (v := .int (zI (((R : Nat) : Int)))) (C := RX7) (T := TX7) (N := 16) hx hb hts iX7 hown hK hP 0 rfl rfl 0 (by decide) (hts (.fieldLink RX7 49 "CancelRowsModel" "many" "I") (by decide +kernel)) (fun _ h9 => h9) rfl dX7_doubled_19 ?_
    refine lv_iconst (v := zI 2) hx hb dX7_doubled_22 rfl ?_
    refine z_iadd hx hb dX7_doubled_23 ?_
    refine z_re (e2 := ((R + 2 : Nat) : Int)) (by omega) ?_
    refine lv_bipush (v := zI 24) hx hb dX7_doubled_24 (by decide +kernel) ?_
    refine z_icmp_gt (tgt := 37) hx hb dX7_doubled_26 (by decide) (by omega) (by omega) (fun c26 => ?_) (fun c26 => ?_)
    · refine lv_bipush (v := zI (-3)) hx hb dX7_doubled_37 (by decide +kernel) ?_
      have hP := hP.sub (ws' := [oM y b (((R : Nat) : Int)) (fm) (kn) (pm0) (lm), aI t (b 0) 24 (cN (F)), aJ t (b 1) 24 (G)]) [0, 1, 2] rfl
      have hD := hD.sub (ws' := [oM y b (((R : Nat) : Int)) (fm) (kn) (pm0) (lm), aI t (b 0) 24 (cN (F)), aJ t (b 1) 24 (G)]) [0, 1, 2] (by decide) rfl
      exact W.iret (v := (zI ((-3)))) hx hb hr (fun tq ht hW => ⟨⟨_, (R, F, G), rfl, by rw [sp_doubled, if_pos c6, sp_add2_n (by omega)]; exact ⟨rfl, rfl⟩, by rw [ht]; exact hP, va_K.moved hW.alike hK, hD⟩, hS.F ht⟩) hS.2.2 dX7_doubled_39
    · refine lv_iconst (v := zI 2) hx hb dX7_doubled_29 rfl ?_
      refine lv_iload_n hx hb dX7_doubled_30 rfl (lv_at hl 0 rfl) ?_
      refine z_imul hx hb dX7_doubled_31 ?_
      refine z_re (e2 := ((2 * F i.toNat : Nat) : Int)) (by omega) ?_
      refine lv_bipush (v := zI 32) hx hb dX7_doubled_32 (by decide +kernel) ?_
      refine z_icmp_le (tgt := 40) hx hb dX7_doubled_34 (by decide) (by omega) (by omega) (fun c34 => ?_) (fun c34 => ?_)
      · refine lv_aload_n hx hb dX7_doubled_40 rfl (lv_at hl 1 rfl) ?_
        refine va_get (D := D) (ci := 6) (v := .ref (b 1)) (C := RX7) (T := TX7) (N := 16) hx hb hts iX7 hown hK hP 0 rfl rfl 2 (by decide) (hts (.fieldLink RX7 13 "CancelRowsModel" "numbers" "[J") (by decide +kernel)) (fun _ h9 => h9) rfl dX7_doubled_41 ?_
        refine lv_iload_n hx hb dX7_doubled_44 rfl (lv_at hl 2 rfl) ?_
        refine l_lald hx hb hK hP 2 1 rfl rfl (i.toNat) (by omega) (by omega) (by omega) dX7_doubled_45 ?_
        refine lv_lstore (lv' := [(4, .long (lN ((G) (i.toNat)))), (3, .int (zI (((F (i.toNat) : Nat) : Int)))), (0, .ref y), (1, .int (zI (i))), (2, .int (zI (j)))]) hx hb dX7_doubled_46 hl (by decide) rfl (fun ls hl => ?_)
        refine lv_aload_n hx hb dX7_doubled_48 rfl (lv_at hl 2 rfl) ?_
        refine va_get (D := D) (ci := 6) (v := .ref (b 1)) (C := RX7) (T := TX7) (N := 16) hx hb hts iX7 hown hK hP 0 rfl rfl 2 (by decide) (hts (.fieldLink RX7 13 "CancelRowsModel" "numbers" "[J") (by decide +kernel)) (fun _ h9 => h9) rfl dX7_doubled_49 ?_
        refine lv_iload_n hx hb dX7_doubled_52 rfl (lv_at hl 4 rfl) ?_
        refine l_lald hx hb hK hP 2 1 rfl rfl (j.toNat) (by omega) (by omega) (by omega) dX7_doubled_53 ?_
        refine lv_lstore (lv' := [(6, .long (lN ((G) (j.toNat)))), (4, .long (lN ((G) (i.toNat)))), (3, .int (zI (((F (i.toNat) : Nat) : Int)))), (0, .ref y), (1, .int (zI (i))), (2, .int (zI (j)))]) hx hb dX7_doubled_54 hl (by decide) rfl (fun ls hl => ?_)
        refine lv_aload_n hx hb dX7_doubled_56 rfl (lv_at hl 3 rfl) ?_
        refine lv_iconst (v := zI 2) hx hb dX7_doubled_57 rfl ?_
        refine lv_iload_n hx hb dX7_doubled_58 rfl (lv_at hl 2 rfl) ?_
        refine z_imul hx hb dX7_doubled_59 ?_
        refine z_re (e2 := ((2 * F i.toNat : Nat) : Int)) (by omega) ?_
        refine lv_iload_n hx hb dX7_doubled_60 rfl (lv_at hl 2 rfl) ?_
        refine lv_lload hx hb dX7_doubled_61 (lv_at hl 1 rfl) ?_
        refine lv_lload hx hb dX7_doubled_63 (lv_at hl 0 rfl) ?_
        refine vp_callSl (va_runS (As := [.int (zI (((F (i.toNat) : Nat) : Int))), .long (lN ((G) (i.toNat))), .long (lN ((G) (j.toNat)))]) (rest := [.int (zI (((2 * F i.toNat : Nat) : Int))), .ref y]) ⟨hx, hb, hml, hown, hts⟩ (c_X7_behind l (G i.toNat) (F i.toNat) (G j.toNat) (by omega)) (va_cwS 3 hts gX7_doubled_X7_behind rfl rfl rfl (by decide +kernel) ⟨Nat.le_of_ble_eq_true rfl, Nat.le_of_ble_eq_true rfl⟩) ⟨fun a U g mk q => q, fun U hU hW => ⟨rfl, trivial⟩⟩ rfl rfl hl.1 rfl (lv_room (Nat.le_of_ble_eq_true rfl)) dX7_doubled_65 ⟨Nat.le_of_ble_eq_true rfl, Nat.le_of_ble_eq_true rfl⟩).run (fun r hr65 => ?_)
        obtain rfl := hr65
        have hPc := hP.sub (ws' := [oM y b (((R : Nat) : Int)) (fm) (kn) (pm0) (lm), aI t (b 0) 24 (cN F), aJ t (b 1) 24 (G)]) [0, 1, 2] rfl
        have hDc := hD.sub (ws' := [oM y b (((R : Nat) : Int)) (fm) (kn) (pm0) (lm), aI t (b 0) 24 (cN F), aJ t (b 1) 24 (G)]) [0, 1, 2] (by decide) rfl
        have hFc := va_free (wc := [oM y b (((R : Nat) : Int)) (fm) (kn) (pm0) (lm), aI t (b 0) 24 (cN F), aJ t (b 1) 24 (G)]) hD hS hA [0, 1, 2] rfl
        refine va_calli (va_runV (As := [.int (zI (((2 * F i.toNat : Nat) : Int))), .long (lN (jn ((G) (i.toNat)) (F (i.toNat)) ((G) (j.toNat))))]) (rest := []) ⟨hx, hb, hml, hown, hts⟩ (c_X7_added l D t s.heap.size y b (R) fm kn pm0 lm (F) (G) (by omega) (2 * F i.toNat) (jn (G i.toNat) (F i.toNat) (G j.toNat)) (by omega)) (cwV 2 hts gX7_doubled_X7_added rfl rfl rfl (by decide +kernel) ⟨Nat.le_of_ble_eq_true rfl, Nat.le_of_ble_eq_true rfl⟩) ⟨fun a U g mk q => by obtain ⟨q0, q1, qP, qK, qD⟩ := q; exact ⟨q0, q1, qP, va_K.moved (u := U) (U := U.calling g mk a) (Vm.Alike.refl U.vm) qK, qD⟩, va_recv hK hPc (ci := 6) (q0 := 0) rfl rfl, fun U hU hW => ⟨rfl, by rw [hU], by rw [hU]; exact hPc, va_K.moved hW.alike hK, hDc.weaken (fun _ _ _ _ => trivial)⟩⟩ rfl rfl hl.1 rfl (lv_room (Nat.le_of_ble_eq_true rfl)) dX7_doubled_68 ⟨Nat.le_of_ble_eq_true rfl, Nat.le_of_ble_eq_true rfl⟩) hS (fun q _ h => hFc q h) hFc (fun r u tq H1 locs ht hvm hr68 hB hz1 hk1 hS => ?_)
        obtain ⟨R2, F2, G2⟩ := u
        obtain ⟨hP1, hK1, hD1⟩ := hB
        rw [ht] at hP1
        obtain ⟨hP, hD⟩ := va_join (wr := []) (w1 := [oM y b (((R2 : Nat) : Int)) (fm) (kn) (pm0) (lm), aI t (b 0) 24 (cN (F2)), aJ t (b 1) 24 (G2)]) hP hD [0, 1, 2] [] rfl rfl (by decide) (by decide) hk1 hFc hP1 hD1
        generalize H1 = H at hP hS ⊢
        have hP : va_P D vwCl [oM y b (((R2 : Nat) : Int)) (fm) (kn) (pm0) (lm), aI t (b 0) 24 (cN (F2)), aJ t (b 1) 24 (G2)] H := hP
        have hD : va_D AA [oM y b (((R2 : Nat) : Int)) (fm) (kn) (pm0) (lm), aI t (b 0) 24 (cN (F2)), aJ t (b 1) 24 (G2)] := hD
        obtain ⟨rfl, hu⟩ := hr68
        obtain ⟨rfl, rfl, rfl⟩ : R2 = R + 1 ∧ F2 = va_up (F) (R) (2 * F i.toNat) ∧ G2 = va_up (G) (R) (jn (G i.toNat) (F i.toNat) (G j.toNat)) := ⟨congrArg (·.1) hu, congrArg (·.2.1) hu, congrArg (·.2.2) hu⟩
        refine lv_istore (lv' := [(8, .int (zI (((R : Nat) : Int)))), (6, .long (lN ((G) (j.toNat)))), (4, .long (lN ((G) (i.toNat)))), (3, .int (zI (((F (i.toNat) : Nat) : Int)))), (0, .ref y), (1, .int (zI (i))), (2, .int (zI (j)))]) hx hb dX7_doubled_71 hl (by decide) rfl (fun ls hl => ?_)
        refine lv_aload_n hx hb dX7_doubled_73 rfl (lv_at hl 4 rfl) ?_
        refine lv_iconst (v := zI 2) hx hb dX7_doubled_74 rfl ?_
        refine lv_iload_n hx hb dX7_doubled_75 rfl (lv_at hl 3 rfl) ?_
        refine z_imul hx hb dX7_doubled_76 ?_
        refine z_re (e2 := ((2 * F i.toNat : Nat) : Int)) (by omega) ?_
        refine lv_iload_n hx hb dX7_doubled_77 rfl (lv_at hl 3 rfl) ?_
        refine lv_lload hx hb dX7_doubled_78 (lv_at hl 2 rfl) ?_
        refine lv_iload_n hx hb dX7_doubled_80 rfl (lv_at hl 3 rfl) ?_
        refine lv_lload hx hb dX7_doubled_81 (lv_at hl 1 rfl) ?_
        refine vp_callSl (va_runS (As := [.int (zI (((F (i.toNat) : Nat) : Int))), .long (lN ((G) (j.toNat)))]) (rest := [.long (lN ((G) (i.toNat))), .int (zI (((F (i.toNat) : Nat) : Int))), .int (zI (((2 * F i.toNat : Nat) : Int))), .ref y]) ⟨hx, hb, hml, hown, hts⟩ (c_X7_opposite l (F i.toNat) (G j.toNat) h1.2.1) (va_cwS 2 hts gX7_doubled_X7_opposite rfl rfl rfl (by decide +kernel) ⟨Nat.le_of_ble_eq_true rfl, Nat.le_of_ble_eq_true rfl⟩) ⟨fun a U g mk q => q, fun U hU hW => ⟨rfl, trivial⟩⟩ rfl rfl hl.1 rfl (lv_room (Nat.le_of_ble_eq_true rfl)) dX7_doubled_83 ⟨Nat.le_of_ble_eq_true rfl, Nat.le_of_ble_eq_true rfl⟩).run (fun r hr83 => ?_)
        obtain rfl := hr83
        refine vp_callSl (va_runS (As := [.int (zI (((F (i.toNat) : Nat) : Int))), .long (lN ((G) (i.toNat))), .long (lN (((G) (j.toNat)) ^^^ (2 ^ (F (i.toNat)) - 1)))]) (rest := [.int (zI (((2 * F i.toNat : Nat) : Int))), .ref y]) ⟨hx, hb, hml, hown, hts⟩ (c_X7_behind l (G i.toNat) (F i.toNat) (G j.toNat ^^^ (2 ^ F i.toNat - 1)) (by omega)) (va_cwS 3 hts gX7_doubled_X7_behind rfl rfl rfl (by decide +kernel) ⟨Nat.le_of_ble_eq_true rfl, Nat.le_of_ble_eq_true rfl⟩) ⟨fun a U g mk q => q, fun U hU hW => ⟨rfl, trivial⟩⟩ rfl rfl hl.1 rfl (lv_room (Nat.le_of_ble_eq_true rfl)) dX7_doubled_86 ⟨Nat.le_of_ble_eq_true rfl, Nat.le_of_ble_eq_true rfl⟩).run (fun r hr86 => ?_)
        obtain rfl := hr86
        have hPc := hP.sub (ws' := [oM y b ((((R + 1) : Nat) : Int)) (fm) (kn) (pm0) (lm), aI t (b 0) 24 (cN ((va_up (F) (R) (2 * F i.toNat)))), aJ t (b 1) 24 ((va_up (G) (R) (jn (G i.toNat) (F i.toNat) (G j.toNat))))]) [0, 1, 2] rfl
        have hDc := hD.sub (ws' := [oM y b ((((R + 1) : Nat) : Int)) (fm) (kn) (pm0) (lm), aI t (b 0) 24 (cN ((va_up (F) (R) (2 * F i.toNat)))), aJ t (b 1) 24 ((va_up (G) (R) (jn (G i.toNat) (F i.toNat) (G j.toNat))))]) [0, 1, 2] (by decide) rfl
        have hFc := va_free (wc := [oM y b ((((R + 1) : Nat) : Int)) (fm) (kn) (pm0) (lm), aI t (b 0) 24 (cN ((va_up (F) (R) (2 * F i.toNat)))), aJ t (b 1) 24 ((va_up (G) (R) (jn (G i.toNat) (F i.toNat) (G j.toNat))))]) hD hS hA [0, 1, 2] rfl
        refine va_calli (va_runV (As := [.int (zI (((2 * F i.toNat : Nat) : Int))), .long (lN (jn ((G) (i.toNat)) (F (i.toNat)) (((G) (j.toNat)) ^^^ (2 ^ (F (i.toNat)) - 1))))]) (rest := []) ⟨hx, hb, hml, hown, hts⟩ (c_X7_added l D t H.size y b (R + 1) fm kn pm0 lm (va_up F R (2 * F i.toNat)) (va_up G R (jn (G i.toNat) (F i.toNat) (G j.toNat))) (by omega) (2 * F i.toNat) (jn (G i.toNat) (F i.toNat) (G j.toNat ^^^ (2 ^ F i.toNat - 1))) (by omega)) (cwV 2 hts gX7_doubled_X7_added rfl rfl rfl (by decide +kernel) ⟨Nat.le_of_ble_eq_true rfl, Nat.le_of_ble_eq_true rfl⟩) ⟨fun a U g mk q => by obtain ⟨q0, q1, qP, qK, qD⟩ := q; exact ⟨q0, q1, qP, va_K.moved (u := U) (U := U.calling g mk a) (Vm.Alike.refl U.vm) qK, qD⟩, va_recv hK hPc (ci := 6) (q0 := 0) rfl rfl, fun U hU hW => ⟨rfl, by rw [hU], by rw [hU]; exact hPc, va_K.moved hW.alike hK, hDc.weaken (fun _ _ _ _ => trivial)⟩⟩ rfl rfl hl.1 rfl (lv_room (Nat.le_of_ble_eq_true rfl)) dX7_doubled_89 ⟨Nat.le_of_ble_eq_true rfl, Nat.le_of_ble_eq_true rfl⟩) hS (fun q _ h => hFc q h) hFc (fun r u tq H1 locs ht hvm hr89 hB hz1 hk1 hS => ?_)
        obtain ⟨R2b, F2b, G2b⟩ := u
        obtain ⟨hP1, hK1, hD1⟩ := hB
        rw [ht] at hP1
        obtain ⟨hP, hD⟩ := va_join (wr := []) (w1 := [oM y b (((R2b : Nat) : Int)) (fm) (kn) (pm0) (lm), aI t (b 0) 24 (cN (F2b)), aJ t (b 1) 24 (G2b)]) hP hD [0, 1, 2] [] rfl rfl (by decide) (by decide) hk1 hFc hP1 hD1
        generalize H1 = H at hP hS ⊢
        have hP : va_P D vwCl [oM y b (((R2b : Nat) : Int)) (fm) (kn) (pm0) (lm), aI t (b 0) 24 (cN (F2b)), aJ t (b 1) 24 (G2b)] H := hP
        have hD : va_D AA [oM y b (((R2b : Nat) : Int)) (fm) (kn) (pm0) (lm), aI t (b 0) 24 (cN (F2b)), aJ t (b 1) 24 (G2b)] := hD
        obtain ⟨rfl, hu⟩ := hr89
        obtain ⟨rfl, rfl, rfl⟩ : R2b = R + 1 + 1 ∧ F2b = va_up (va_up F R (2 * F i.toNat)) (R + 1) (2 * F i.toNat) ∧ G2b = va_up (va_up G R (jn (G i.toNat) (F i.toNat) (G j.toNat))) (R + 1) (jn (G i.toNat) (F i.toNat) (G j.toNat ^^^ (2 ^ F i.toNat - 1))) := ⟨congrArg (·.1) hu, congrArg (·.2.1) hu, congrArg (·.2.2) hu⟩
        refine lv_istore (lv' := [(9, .int (zI (((R + 1 : Nat) : Int)))), (8, .int (zI (((R : Nat) : Int)))), (6, .long (lN ((G) (j.toNat)))), (4, .long (lN ((G) (i.toNat)))), (3, .int (zI (((F (i.toNat) : Nat) : Int)))), (0, .ref y), (1, .int (zI (i))), (2, .int (zI (j)))]) hx hb dX7_doubled_92 hl (by decide) rfl (fun ls hl => ?_)
        refine lv_iload hx hb dX7_doubled_94 (lv_at hl 1 rfl) ?_
        have hP := hP.sub (ws' := [oM y b (((R + 1 + 1 : Nat) : Int)) (fm) (kn) (pm0) (lm), aI t (b 0) 24 (cN (va_up (va_up F R (2 * F i.toNat)) (R + 1) (2 * F i.toNat))), aJ t (b 1) 24 (va_up (va_up G R (jn (G i.toNat) (F i.toNat) (G j.toNat))) (R + 1) (jn (G i.toNat) (F i.toNat) (G j.toNat ^^^ (2 ^ F i.toNat - 1))))]) [0, 1, 2] rfl
        have hD := hD.sub (ws' := [oM y b (((R + 1 + 1 : Nat) : Int)) (fm) (kn) (pm0) (lm), aI t (b 0) 24 (cN (va_up (va_up F R (2 * F i.toNat)) (R + 1) (2 * F i.toNat))), aJ t (b 1) 24 (va_up (va_up G R (jn (G i.toNat) (F i.toNat) (G j.toNat))) (R + 1) (jn (G i.toNat) (F i.toNat) (G j.toNat ^^^ (2 ^ F i.toNat - 1))))]) [0, 1, 2] (by decide) rfl
        exact W.iret (v := (zI (((R : Nat) : Int)))) hx hb hr (fun tq ht hW => ⟨⟨_, (R + 1 + 1, va_up (va_up F R (2 * F i.toNat)) (R + 1) (2 * F i.toNat), va_up (va_up G R (jn (G i.toNat) (F i.toNat) (G j.toNat))) (R + 1) (jn (G i.toNat) (F i.toNat) (G j.toNat ^^^ (2 ^ F i.toNat - 1)))), rfl, by rw [sp_doubled, if_pos c6, sp_add2_y (by omega)]; exact ⟨rfl, rfl⟩, by rw [ht]; exact hP, va_K.moved hW.alike hK, hD⟩, hS.F ht⟩) hS.2.2 dX7_doubled_96
      · refine lv_bipush (v := zI (-3)) hx hb dX7_doubled_37 (by decide +kernel) ?_
        have hP := hP.sub (ws' := [oM y b (((R : Nat) : Int)) (fm) (kn) (pm0) (lm), aI t (b 0) 24 (cN (F)), aJ t (b 1) 24 (G)]) [0, 1, 2] rfl
        have hD := hD.sub (ws' := [oM y b (((R : Nat) : Int)) (fm) (kn) (pm0) (lm), aI t (b 0) 24 (cN (F)), aJ t (b 1) 24 (G)]) [0, 1, 2] (by decide) rfl
        exact W.iret (v := (zI ((-3)))) hx hb hr (fun tq ht hW => ⟨⟨_, (R, F, G), rfl, by rw [sp_doubled, if_pos c6, sp_add2_n (by omega)]; exact ⟨rfl, rfl⟩, by rw [ht]; exact hP, va_K.moved hW.alike hK, hD⟩, hS.F ht⟩) hS.2.2 dX7_doubled_39
  · refine lv_iconst (v := zI (-1)) hx hb dX7_doubled_9 rfl ?_
    have hP := hP.sub (ws' := [oM y b (((R : Nat) : Int)) (fm) (kn) (pm0) (lm), aI t (b 0) 24 (cN (F)), aJ t (b 1) 24 (G)]) [0, 1, 2] rfl
    have hD := hD.sub (ws' := [oM y b (((R : Nat) : Int)) (fm) (kn) (pm0) (lm), aI t (b 0) 24 (cN (F)), aJ t (b 1) 24 (G)]) [0, 1, 2] (by decide) rfl
    exact W.iret (v := (zI ((-1)))) hx hb hr (fun tq ht hW => ⟨⟨_, (R, F, G), rfl, by rw [sp_doubled, if_neg (c6)]; exact ⟨rfl, rfl⟩, by rw [ht]; exact hP, va_K.moved hW.alike hK, hD⟩, hS.F ht⟩) hS.2.2 dX7_doubled_10

-- the check: told
set_option maxHeartbeats 4000000 in
set_option maxRecDepth 100000 in
theorem c_X7_told (l : Launch) (D : va_G) (t : Nat → ClassId) (sz : Nat) (y : Nat) (b : Nat → Nat) (R : Nat) (fm kn pm0 lm : Int) (F G : Nat → Nat) (gV : RV R F G) (n : Int) (gn : -2147483648 ≤ n ∧ n < 2147483648) : Met l yX7_told wsX7_told ({ frames := 1, cells := 0, slots := 0, locals := 25 }) (va_Pc [.ref y, .int (zI (n))] (fun U => U.heap.size = sz ∧ va_P D vwCl ([oM y b (((R : Nat) : Int)) (fm) (kn) (pm0) (lm), aI t (b 0) 24 (cN F), aJ t (b 1) 24 (G)]) U.heap ∧ va_K D vwCl (TY t) U ∧ va_D (fun _ => True) ([oM y b (((R : Nat) : Int)) (fm) (kn) (pm0) (lm), aI t (b 0) 24 (cN F), aJ t (b 1) 24 (G)]))) (va_Qi (fun r (u : RT) => r = zI (sp_told R F G n).1 ∧ u = (sp_told R F G n).2) (fun (u : RT) t1 => va_P D vwCl ([oM y b (((u.1 : Nat) : Int)) (fm) (kn) (pm0) (lm), aI t (b 0) 24 (cN (u.2.1)), aJ t (b 1) 24 (u.2.2)]) t1.heap ∧ va_K D vwCl (TY t) t1 ∧ va_D (va_A ([oM y b (((R : Nat) : Int)) (fm) (kn) (pm0) (lm), aI t (b 0) 24 (cN F), aJ t (b 1) 24 (G)]) sz) ([oM y b (((u.1 : Nat) : Int)) (fm) (kn) (pm0) (lm), aI t (b 0) 24 (cN (u.2.1)), aJ t (b 1) 24 (u.2.2)])) (va_A ([oM y b (((R : Nat) : Int)) (fm) (kn) (pm0) (lm), aI t (b 0) 24 (cN F), aJ t (b 1) 24 (G)]) sz)) 0 0 (va_A ([oM y b (((R : Nat) : Int)) (fm) (kn) (pm0) (lm), aI t (b 0) 24 (cN F), aJ t (b 1) 24 (G)]) sz) := by
  refine Met.ofW (cc := cX7_told) (maxL := 11) (ret := (some .int)) (by decide) rfl ?_
  intro p e s m args below meth c s₁ B hml hv
  obtain ⟨rfl, hsz, hP, hK, hD0⟩ := hv
  have hx := B.exec
  have hb := B.bytes
  have hr := B.returns
  have hts := atoms_spec (ws := wsX7_told) B.pre
  have hown : s.vm.findClass RX7 = some m.cls := findClass_of_methodNamed B.named
  have hlocks := B.notSynchronized
  subst hsz
  have hD := hD0.self (sz := s.heap.size)
  generalize hAe : va_A ([oM y b (((R : Nat) : Int)) (fm) (kn) (pm0) (lm), aI t (b 0) 24 (cN F), aJ t (b 1) 24 (G)]) s.heap.size = AA at hD ⊢
  have hA : ∀ q : Nat, s.heap.size ≤ q → AA q := fun q h => by rw [← hAe]; exact Or.inr h
  have hS : va_S AA s.heap s.heap [] := va_S.rf
  have hP : va_P D vwCl ([oM y b (((R : Nat) : Int)) (fm) (kn) (pm0) (lm), aI t (b 0) 24 (cN F), aJ t (b 1) 24 (G)]) s.heap := hP
  have hl := lv_entry ([.ref y, .int (zI (n))]) (n := 11) (Nat.le_of_ble_eq_true rfl)
  rw [lg_entry_eq]
  generalize (lg_sl ([.ref y, .int (zI (n))]) ++ List.replicate (11 - (lg_sl ([.ref y, .int (zI (n))])).length) Slot.unset).toArray = ls at hl ⊢
  have hl : lv_has ls 11 [(0, .ref y), (1, .int (zI (n)))] := hl
  have iX7 : ∀ w ∈ u_ws RX7 TX7 16, w ∈ wsX7_told := by decide +kernel
  have gR := gV.1
  refine lv_iload_n hx hb dX7_told_0 rfl (lv_at hl 1 rfl) ?_
  refine z_i2l hx hb (by omega) dX7_told_1 ?_
  refine lv_lconst (v := lN 1) hx hb dX7_told_2 rfl ?_
  refine lv_ldc2 (v := lN 32) hx hb hown (hts (.constantLong RX7 56 (lN 32)) (by decide +kernel)) dX7_told_3 ?_
  refine vp_callSi (va_runS (As := [.long (zL (n)), .long (lN (1)), .long (lN (32))]) (rest := []) ⟨hx, hb, hml, hown, hts⟩ (c_X7_in l _ _ _) (va_cwS 3 hts gX7_told_X7_in rfl rfl rfl (by decide +kernel) ⟨Nat.le_of_ble_eq_true rfl, Nat.le_of_ble_eq_true rfl⟩) ⟨fun a U g mk q => q, fun U hU hW => ⟨rfl, trivial⟩⟩ rfl rfl hl.1 rfl (lv_room (Nat.le_of_ble_eq_true rfl)) dX7_told_6 ⟨Nat.le_of_ble_eq_true rfl, Nat.le_of_ble_eq_true rfl⟩).run (fun r hr6 => ?_)
  have hq6 : r = zI (bP (((1 : Nat) : Int) ≤ n ∧ n ≤ ((32 : Nat) : Int))) := by rw [hr6]; exact congrArg zI (bP_cg (by simp only [zL_toInt (e := n) (by omega), lN_toI (n := 1) (by omega), lN_toI (n := 32) (by omega)]))
  obtain rfl := hq6
  refine z_ifb_ne (P := ((1 : Nat) : Int) ≤ n ∧ n ≤ ((32 : Nat) : Int)) (tgt := 14) hx hb dX7_told_9 (by decide) (fun c9 => ?_) (fun c9 => ?_)
  · obtain ⟨d1, d2, d3, d4⟩ := told_d n.toNat (by omega) (by omega)
    have lp45 : ∀ (H : Heap) (locs : List Loc), va_P D vwCl [oM y b (((R : Nat) : Int)) (fm) (kn) (pm0) (lm), aI t (b 0) 24 (cN F), aJ t (b 1) 24 (G)] H → va_D AA [oM y b (((R : Nat) : Int)) (fm) (kn) (pm0) (lm), aI t (b 0) 24 (cN F), aJ t (b 1) 24 (G)] → va_S AA s.heap H locs → ∀ (ls : Array Slot), lv_has ls 11 [(0, .ref y), (1, .int (zI (n))), (2, .int (zI (((mfrom n.toNat : Nat) : Int))))] → W p l e (headSpec wsX7_told ({ frames := 1, cells := 0, slots := 0, locals := 25 })).room s m ([.ref y, .int (zI (n))] : List Value).toArray below meth c H locs 0 0 (MQ below (va_Qi (fun r (u : RT) => r = zI (sp_told R F G n).1 ∧ u = (sp_told R F G n).2) (fun (u : RT) t1 => va_P D vwCl ([oM y b (((u.1 : Nat) : Int)) (fm) (kn) (pm0) (lm), aI t (b 0) 24 (cN (u.2.1)), aJ t (b 1) 24 (u.2.2)]) t1.heap ∧ va_K D vwCl (TY t) t1 ∧ va_D (AA) ([oM y b (((u.1 : Nat) : Int)) (fm) (kn) (pm0) (lm), aI t (b 0) 24 (cN (u.2.1)), aJ t (b 1) 24 (u.2.2)])) (AA)) ([.ref y, .int (zI (n))] : List Value).toArray s 0 0 (AA)) (F0 m 45 ls []) := by
      intro   H locs hP hD hS ls hl
      have lp71 : ∀ (H : Heap) (locs : List Loc), va_P D vwCl [oM y b (((R : Nat) : Int)) (fm) (kn) (pm0) (lm), aI t (b 0) 24 (cN F), aJ t (b 1) 24 (G)] H → va_D AA [oM y b (((R : Nat) : Int)) (fm) (kn) (pm0) (lm), aI t (b 0) 24 (cN F), aJ t (b 1) 24 (G)] → va_S AA s.heap H locs → ∀ (ls : Array Slot), lv_has ls 11 [(0, .ref y), (1, .int (zI (n))), (2, .int (zI (((mfrom n.toNat : Nat) : Int)))), (3, .long (lN (mcA (mfrom n.toNat))))] → W p l e (headSpec wsX7_told ({ frames := 1, cells := 0, slots := 0, locals := 25 })).room s m ([.ref y, .int (zI (n))] : List Value).toArray below meth c H locs 0 0 (MQ below (va_Qi (fun r (u : RT) => r = zI (sp_told R F G n).1 ∧ u = (sp_told R F G n).2) (fun (u : RT) t1 => va_P D vwCl ([oM y b (((u.1 : Nat) : Int)) (fm) (kn) (pm0) (lm), aI t (b 0) 24 (cN (u.2.1)), aJ t (b 1) 24 (u.2.2)]) t1.heap ∧ va_K D vwCl (TY t) t1 ∧ va_D (AA) ([oM y b (((u.1 : Nat) : Int)) (fm) (kn) (pm0) (lm), aI t (b 0) 24 (cN (u.2.1)), aJ t (b 1) 24 (u.2.2)])) (AA)) ([.ref y, .int (zI (n))] : List Value).toArray s 0 0 (AA)) (F0 m 71 ls []) := by
        intro   H locs hP hD hS ls hl
        have lp98 : ∀ (H : Heap) (locs : List Loc), va_P D vwCl [oM y b (((R : Nat) : Int)) (fm) (kn) (pm0) (lm), aI t (b 0) 24 (cN F), aJ t (b 1) 24 (G)] H → va_D AA [oM y b (((R : Nat) : Int)) (fm) (kn) (pm0) (lm), aI t (b 0) 24 (cN F), aJ t (b 1) 24 (G)] → va_S AA s.heap H locs → ∀ (ls : Array Slot), lv_has ls 11 [(0, .ref y), (1, .int (zI (n))), (2, .int (zI (((mfrom n.toNat : Nat) : Int)))), (3, .long (lN (mcA (mfrom n.toNat)))), (5, .long (lN (mcB (mfrom n.toNat))))] → W p l e (headSpec wsX7_told ({ frames := 1, cells := 0, slots := 0, locals := 25 })).room s m ([.ref y, .int (zI (n))] : List Value).toArray below meth c H locs 0 0 (MQ below (va_Qi (fun r (u : RT) => r = zI (sp_told R F G n).1 ∧ u = (sp_told R F G n).2) (fun (u : RT) t1 => va_P D vwCl ([oM y b (((u.1 : Nat) : Int)) (fm) (kn) (pm0) (lm), aI t (b 0) 24 (cN (u.2.1)), aJ t (b 1) 24 (u.2.2)]) t1.heap ∧ va_K D vwCl (TY t) t1 ∧ va_D (AA) ([oM y b (((u.1 : Nat) : Int)) (fm) (kn) (pm0) (lm), aI t (b 0) 24 (cN (u.2.1)), aJ t (b 1) 24 (u.2.2)])) (AA)) ([.ref y, .int (zI (n))] : List Value).toArray s 0 0 (AA)) (F0 m 98 ls []) := by
          intro   H locs hP hD hS ls hl
          refine lv_iload_n hx hb dX7_told_98 rfl (lv_at hl 2 rfl) ?_
          refine lv_istore (lv' := [(7, .int (zI (((mfrom n.toNat : Nat) : Int)))), (0, .ref y), (1, .int (zI (n))), (2, .int (zI (((mfrom n.toNat : Nat) : Int)))), (3, .long (lN (mcA (mfrom n.toNat)))), (5, .long (lN (mcB (mfrom n.toNat))))]) hx hb dX7_told_99 hl (by decide) rfl (fun ls hl => ?_)
          have lp101 : ∀ (NN : Nat) (f : Nat) (h : Nat) (q1 : 1 ≤ h) (q2 : hlf f h n.toNat = hlf 6 (mfrom n.toNat) n.toNat) (q3 : n.toNat ≤ h * 2 ^ f) (q4 : h ≤ 64), n.toNat - h < NN → ∀ (H : Heap) (locs : List Loc), va_P D vwCl [oM y b (((R : Nat) : Int)) (fm) (kn) (pm0) (lm), aI t (b 0) 24 (cN F), aJ t (b 1) 24 (G)] H → va_D AA [oM y b (((R : Nat) : Int)) (fm) (kn) (pm0) (lm), aI t (b 0) 24 (cN F), aJ t (b 1) 24 (G)] → va_S AA s.heap H locs → ∀ (ls : Array Slot), lv_has ls 11 [(0, .ref y), (1, .int (zI (n))), (2, .int (zI (((mfrom n.toNat : Nat) : Int)))), (3, .long (lN (mcA (mfrom n.toNat)))), (5, .long (lN (mcB (mfrom n.toNat)))), (7, .int (zI (h)))] → W p l e (headSpec wsX7_told ({ frames := 1, cells := 0, slots := 0, locals := 25 })).room s m ([.ref y, .int (zI (n))] : List Value).toArray below meth c H locs 0 0 (MQ below (va_Qi (fun r (u : RT) => r = zI (sp_told R F G n).1 ∧ u = (sp_told R F G n).2) (fun (u : RT) t1 => va_P D vwCl ([oM y b (((u.1 : Nat) : Int)) (fm) (kn) (pm0) (lm), aI t (b 0) 24 (cN (u.2.1)), aJ t (b 1) 24 (u.2.2)]) t1.heap ∧ va_K D vwCl (TY t) t1 ∧ va_D (AA) ([oM y b (((u.1 : Nat) : Int)) (fm) (kn) (pm0) (lm), aI t (b 0) 24 (cN (u.2.1)), aJ t (b 1) 24 (u.2.2)])) (AA)) ([.ref y, .int (zI (n))] : List Value).toArray s 0 0 (AA)) (F0 m 101 ls []) := by
            intro NN
            induction NN with
            | zero =>
              intro f h q1 q2 q3 q4 hmu
              exact absurd hmu (Nat.not_lt_zero _)
            | succ NN ih101 =>
              intro f h q1 q2 q3 q4 hmu H locs hP hD hS ls hl
              refine lv_iload hx hb dX7_told_101 (lv_at hl 5 rfl) ?_
              refine lv_iload_n hx hb dX7_told_103 rfl (lv_at hl 1 rfl) ?_
              refine z_icmp_ge (tgt := 116) hx hb dX7_told_104 (by decide) (by omega) (by omega) (fun c104 => ?_) (fun c104 => ?_)
              · have e0 := hlf_e (f := f) (h := h) (n := n.toNat) (by omega)
                rw [q2] at e0
                refine lv_iload hx hb dX7_told_116 (lv_at hl 5 rfl) ?_
                refine lv_iload_n hx hb dX7_told_118 rfl (lv_at hl 1 rfl) ?_
                refine z_icmp_eq (tgt := 125) hx hb dX7_told_119 (by decide) (by omega) (by omega) (fun c119 => ?_) (fun c119 => ?_)
                · have hs : ¬ seedN n.toNat = 0 := d1.mp (by omega)
                  obtain ⟨e1, e2, e3⟩ := d2 hs
                  refine lv_aload_n hx hb dX7_told_125 rfl (lv_at hl 0 rfl) ?_
                  refine va_get (D := D) (ci := 6) (v := .int (zI (((R : Nat) : Int)))) (C := RX7) (T := TX7) (N := 16) hx hb hts iX7 hown hK hP 0 rfl rfl 0 (by decide) (hts (.fieldLink RX7 49 "CancelRowsModel" "many" "I") (by decide +kernel)) (fun _ h9 => h9) rfl dX7_told_126 ?_
                  refine lv_iconst (v := zI 2) hx hb dX7_told_129 rfl ?_
                  refine z_iadd hx hb dX7_told_130 ?_
                  refine z_re (e2 := ((R + 2 : Nat) : Int)) (by omega) ?_
                  refine lv_bipush (v := zI 24) hx hb dX7_told_131 (by decide +kernel) ?_
                  refine z_icmp_le (tgt := 139) hx hb dX7_told_133 (by decide) (by omega) (by omega) (fun c133 => ?_) (fun c133 => ?_)
                  · refine lv_iload_n hx hb dX7_told_139 rfl (lv_at hl 2 rfl) ?_
                    refine lv_lload_n hx hb dX7_told_140 rfl (lv_at hl 3 rfl) ?_
                    refine vp_callSl (va_runS (As := [.int (zI (((mfrom n.toNat : Nat) : Int))), .long (lN (mcA (mfrom n.toNat)))]) (rest := []) ⟨hx, hb, hml, hown, hts⟩ (c_X7_ofBits l (mfrom n.toNat) (mcA (mfrom n.toNat)) (by omega) (by unfold mcA; split <;> (try split) <;> omega)) (va_cwS 2 hts gX7_told_X7_ofBits rfl rfl rfl (by decide +kernel) ⟨Nat.le_of_ble_eq_true rfl, Nat.le_of_ble_eq_true rfl⟩) ⟨fun a U g mk q => q, fun U hU hW => ⟨rfl, trivial⟩⟩ rfl rfl hl.1 rfl (lv_room (Nat.le_of_ble_eq_true rfl)) dX7_told_141 ⟨Nat.le_of_ble_eq_true rfl, Nat.le_of_ble_eq_true rfl⟩).run (fun r hr141 => ?_)
                    obtain rfl := hr141
                    refine n_re (e2 := seedA (seedN n.toNat)) (e2) ?_
                    refine lv_lstore_n (lv' := [(3, .long (lN (seedA (seedN n.toNat)))), (0, .ref y), (1, .int (zI (n))), (2, .int (zI (((mfrom n.toNat : Nat) : Int)))), (5, .long (lN (mcB (mfrom n.toNat)))), (7, .int (zI (h)))]) hx hb dX7_told_144 rfl hl (by decide) rfl (fun ls hl => ?_)
                    refine lv_iload_n hx hb dX7_told_145 rfl (lv_at hl 3 rfl) ?_
                    refine lv_lload hx hb dX7_told_146 (lv_at hl 4 rfl) ?_
                    refine vp_callSl (va_runS (As := [.int (zI (((mfrom n.toNat : Nat) : Int))), .long (lN (mcB (mfrom n.toNat)))]) (rest := []) ⟨hx, hb, hml, hown, hts⟩ (c_X7_ofBits l (mfrom n.toNat) (mcB (mfrom n.toNat)) (by omega) (by unfold mcB; split <;> (try split) <;> omega)) (va_cwS 2 hts gX7_told_X7_ofBits rfl rfl rfl (by decide +kernel) ⟨Nat.le_of_ble_eq_true rfl, Nat.le_of_ble_eq_true rfl⟩) ⟨fun a U g mk q => q, fun U hU hW => ⟨rfl, trivial⟩⟩ rfl rfl hl.1 rfl (lv_room (Nat.le_of_ble_eq_true rfl)) dX7_told_148 ⟨Nat.le_of_ble_eq_true rfl, Nat.le_of_ble_eq_true rfl⟩).run (fun r hr148 => ?_)
                    obtain rfl := hr148
                    refine n_re (e2 := seedB (seedN n.toNat)) (e3) ?_
                    refine lv_lstore (lv' := [(5, .long (lN (seedB (seedN n.toNat)))), (3, .long (lN (seedA (seedN n.toNat)))), (0, .ref y), (1, .int (zI (n))), (2, .int (zI (((mfrom n.toNat : Nat) : Int)))), (7, .int (zI (h)))]) hx hb dX7_told_151 hl (by decide) rfl (fun ls hl => ?_)
                    refine lv_iload_n hx hb dX7_told_153 rfl (lv_at hl 4 rfl) ?_
                    refine lv_istore (lv' := [(8, .int (zI (((mfrom n.toNat : Nat) : Int)))), (5, .long (lN (seedB (seedN n.toNat)))), (3, .long (lN (seedA (seedN n.toNat)))), (0, .ref y), (1, .int (zI (n))), (2, .int (zI (((mfrom n.toNat : Nat) : Int)))), (7, .int (zI (h)))]) hx hb dX7_told_154 hl (by decide) rfl (fun ls hl => ?_)
                    have lp156 : ∀ (NN : Nat) (f : Nat) (q : Nat) (a1 : Nat) (b1 : Nat) (q1 : 1 ≤ q) (q2 : tl f q n.toNat a1 b1 = tlP n.toNat) (q3 : n.toNat ≤ q * 2 ^ f) (q4 : q ≤ 64), n.toNat - q < NN → ∀ (H : Heap) (locs : List Loc), va_P D vwCl [oM y b (((R : Nat) : Int)) (fm) (kn) (pm0) (lm), aI t (b 0) 24 (cN F), aJ t (b 1) 24 (G)] H → va_D AA [oM y b (((R : Nat) : Int)) (fm) (kn) (pm0) (lm), aI t (b 0) 24 (cN F), aJ t (b 1) 24 (G)] → va_S AA s.heap H locs → ∀ (ls : Array Slot), lv_has ls 11 [(0, .ref y), (1, .int (zI (n))), (3, .long (lN (a1))), (5, .long (lN (b1))), (8, .int (zI (q)))] → W p l e (headSpec wsX7_told ({ frames := 1, cells := 0, slots := 0, locals := 25 })).room s m ([.ref y, .int (zI (n))] : List Value).toArray below meth c H locs 0 0 (MQ below (va_Qi (fun r (u : RT) => r = zI (sp_told R F G n).1 ∧ u = (sp_told R F G n).2) (fun (u : RT) t1 => va_P D vwCl ([oM y b (((u.1 : Nat) : Int)) (fm) (kn) (pm0) (lm), aI t (b 0) 24 (cN (u.2.1)), aJ t (b 1) 24 (u.2.2)]) t1.heap ∧ va_K D vwCl (TY t) t1 ∧ va_D (AA) ([oM y b (((u.1 : Nat) : Int)) (fm) (kn) (pm0) (lm), aI t (b 0) 24 (cN (u.2.1)), aJ t (b 1) 24 (u.2.2)])) (AA)) ([.ref y, .int (zI (n))] : List Value).toArray s 0 0 (AA)) (F0 m 156 ls []) := by
                      intro NN
                      induction NN with
                      | zero =>
                        intro f q a1 b1 q1 q2 q3 q4 hmu
                        exact absurd hmu (Nat.not_lt_zero _)
                      | succ NN ih156 =>
                        intro f q a1 b1 q1 q2 q3 q4 hmu H locs hP hD hS ls hl
                        refine lv_iload hx hb dX7_told_156 (lv_at hl 4 rfl) ?_
                        refine lv_iload_n hx hb dX7_told_158 rfl (lv_at hl 1 rfl) ?_
                        refine z_icmp_ge (tgt := 199) hx hb dX7_told_159 (by decide) (by omega) (by omega) (fun c159 => ?_) (fun c159 => ?_)
                        · have f1 := tl_e (f := f) (m := q) (n := n.toNat) (a := a1) (b := b1) (by omega)
                          rw [q2] at f1
                          have f2 : a1 = (tlP n.toNat).1 := by rw [f1]
                          have f3 : b1 = (tlP n.toNat).2 := by rw [f1]
                          refine lv_aload_n hx hb dX7_told_199 rfl (lv_at hl 0 rfl) ?_
                          refine lv_iload_n hx hb dX7_told_200 rfl (lv_at hl 1 rfl) ?_
                          refine z_re (e2 := ((n.toNat : Nat) : Int)) (by omega) ?_
                          refine lv_lload_n hx hb dX7_told_201 rfl (lv_at hl 2 rfl) ?_
                          refine n_re (e2 := (tlP n.toNat).1) (f2) ?_
                          have hPc := hP.sub (ws' := [oM y b (((R : Nat) : Int)) (fm) (kn) (pm0) (lm), aI t (b 0) 24 (cN F), aJ t (b 1) 24 (G)]) [0, 1, 2] rfl
                          have hDc := hD.sub (ws' := [oM y b (((R : Nat) : Int)) (fm) (kn) (pm0) (lm), aI t (b 0) 24 (cN F), aJ t (b 1) 24 (G)]) [0, 1, 2] (by decide) rfl
                          have hFc := va_free (wc := [oM y b (((R : Nat) : Int)) (fm) (kn) (pm0) (lm), aI t (b 0) 24 (cN F), aJ t (b 1) 24 (G)]) hD hS hA [0, 1, 2] rfl
                          refine va_calli (va_runV (As := [.int (zI (((n.toNat : Nat) : Int))), .long (lN ((tlP n.toNat).1))]) (rest := []) ⟨hx, hb, hml, hown, hts⟩ (c_X7_added l D t H.size y b (R) fm kn pm0 lm (F) (G) (by omega) (n.toNat) ((tlP n.toNat).1) (by omega)) (cwV 2 hts gX7_told_X7_added rfl rfl rfl (by decide +kernel) ⟨Nat.le_of_ble_eq_true rfl, Nat.le_of_ble_eq_true rfl⟩) ⟨fun a U g mk q => by obtain ⟨q0, q1, qP, qK, qD⟩ := q; exact ⟨q0, q1, qP, va_K.moved (u := U) (U := U.calling g mk a) (Vm.Alike.refl U.vm) qK, qD⟩, va_recv hK hPc (ci := 6) (q0 := 0) rfl rfl, fun U hU hW => ⟨rfl, by rw [hU], by rw [hU]; exact hPc, va_K.moved hW.alike hK, hDc.weaken (fun _ _ _ _ => trivial)⟩⟩ rfl rfl hl.1 rfl (lv_room (Nat.le_of_ble_eq_true rfl)) dX7_told_202 ⟨Nat.le_of_ble_eq_true rfl, Nat.le_of_ble_eq_true rfl⟩) hS (fun q _ h => hFc q h) hFc (fun r u tq H1 locs ht hvm hr202 hB hz1 hk1 hS => ?_)
                          obtain ⟨R2, F2, G2⟩ := u
                          obtain ⟨hP1, hK1, hD1⟩ := hB
                          rw [ht] at hP1
                          obtain ⟨hP, hD⟩ := va_join (wr := []) (w1 := [oM y b (((R2 : Nat) : Int)) (fm) (kn) (pm0) (lm), aI t (b 0) 24 (cN (F2)), aJ t (b 1) 24 (G2)]) hP hD [0, 1, 2] [] rfl rfl (by decide) (by decide) hk1 hFc hP1 hD1
                          generalize H1 = H at hP hS ⊢
                          have hP : va_P D vwCl [oM y b (((R2 : Nat) : Int)) (fm) (kn) (pm0) (lm), aI t (b 0) 24 (cN (F2)), aJ t (b 1) 24 (G2)] H := hP
                          have hD : va_D AA [oM y b (((R2 : Nat) : Int)) (fm) (kn) (pm0) (lm), aI t (b 0) 24 (cN (F2)), aJ t (b 1) 24 (G2)] := hD
                          obtain ⟨rfl, hu⟩ := hr202
                          obtain ⟨rfl, rfl, rfl⟩ : R2 = R + 1 ∧ F2 = va_up (F) (R) (n.toNat) ∧ G2 = va_up (G) (R) ((tlP n.toNat).1) := ⟨congrArg (·.1) hu, congrArg (·.2.1) hu, congrArg (·.2.2) hu⟩
                          refine lv_istore (lv' := [(8, .int (zI (((R : Nat) : Int)))), (0, .ref y), (1, .int (zI (n))), (3, .long (lN (a1))), (5, .long (lN (b1)))]) hx hb dX7_told_205 hl (by decide) rfl (fun ls hl => ?_)
                          refine lv_aload_n hx hb dX7_told_207 rfl (lv_at hl 1 rfl) ?_
                          refine lv_iload_n hx hb dX7_told_208 rfl (lv_at hl 2 rfl) ?_
                          refine z_re (e2 := ((n.toNat : Nat) : Int)) (by omega) ?_
                          refine lv_lload hx hb dX7_told_209 (lv_at hl 4 rfl) ?_
                          refine n_re (e2 := (tlP n.toNat).2) (f3) ?_
                          have hPc := hP.sub (ws' := [oM y b ((((R + 1) : Nat) : Int)) (fm) (kn) (pm0) (lm), aI t (b 0) 24 (cN ((va_up (F) (R) (n.toNat)))), aJ t (b 1) 24 ((va_up (G) (R) ((tlP n.toNat).1)))]) [0, 1, 2] rfl
                          have hDc := hD.sub (ws' := [oM y b ((((R + 1) : Nat) : Int)) (fm) (kn) (pm0) (lm), aI t (b 0) 24 (cN ((va_up (F) (R) (n.toNat)))), aJ t (b 1) 24 ((va_up (G) (R) ((tlP n.toNat).1)))]) [0, 1, 2] (by decide) rfl
                          have hFc := va_free (wc := [oM y b ((((R + 1) : Nat) : Int)) (fm) (kn) (pm0) (lm), aI t (b 0) 24 (cN ((va_up (F) (R) (n.toNat)))), aJ t (b 1) 24 ((va_up (G) (R) ((tlP n.toNat).1)))]) hD hS hA [0, 1, 2] rfl
                          refine va_calli (va_runV (As := [.int (zI (((n.toNat : Nat) : Int))), .long (lN ((tlP n.toNat).2))]) (rest := []) ⟨hx, hb, hml, hown, hts⟩ (c_X7_added l D t H.size y b (R + 1) fm kn pm0 lm (va_up F R (n.toNat)) (va_up G R ((tlP n.toNat).1)) (by omega) (n.toNat) ((tlP n.toNat).2) (by omega)) (cwV 2 hts gX7_told_X7_added rfl rfl rfl (by decide +kernel) ⟨Nat.le_of_ble_eq_true rfl, Nat.le_of_ble_eq_true rfl⟩) ⟨fun a U g mk q => by obtain ⟨q0, q1, qP, qK, qD⟩ := q; exact ⟨q0, q1, qP, va_K.moved (u := U) (U := U.calling g mk a) (Vm.Alike.refl U.vm) qK, qD⟩, va_recv hK hPc (ci := 6) (q0 := 0) rfl rfl, fun U hU hW => ⟨rfl, by rw [hU], by rw [hU]; exact hPc, va_K.moved hW.alike hK, hDc.weaken (fun _ _ _ _ => trivial)⟩⟩ rfl rfl hl.1 rfl (lv_room (Nat.le_of_ble_eq_true rfl)) dX7_told_211 ⟨Nat.le_of_ble_eq_true rfl, Nat.le_of_ble_eq_true rfl⟩) hS (fun q _ h => hFc q h) hFc (fun r u tq H1 locs ht hvm hr211 hB hz1 hk1 hS => ?_)
                          obtain ⟨R2b, F2b, G2b⟩ := u
                          obtain ⟨hP1, hK1, hD1⟩ := hB
                          rw [ht] at hP1
                          obtain ⟨hP, hD⟩ := va_join (wr := []) (w1 := [oM y b (((R2b : Nat) : Int)) (fm) (kn) (pm0) (lm), aI t (b 0) 24 (cN (F2b)), aJ t (b 1) 24 (G2b)]) hP hD [0, 1, 2] [] rfl rfl (by decide) (by decide) hk1 hFc hP1 hD1
                          generalize H1 = H at hP hS ⊢
                          have hP : va_P D vwCl [oM y b (((R2b : Nat) : Int)) (fm) (kn) (pm0) (lm), aI t (b 0) 24 (cN (F2b)), aJ t (b 1) 24 (G2b)] H := hP
                          have hD : va_D AA [oM y b (((R2b : Nat) : Int)) (fm) (kn) (pm0) (lm), aI t (b 0) 24 (cN (F2b)), aJ t (b 1) 24 (G2b)] := hD
                          obtain ⟨rfl, hu⟩ := hr211
                          obtain ⟨rfl, rfl, rfl⟩ : R2b = R + 1 + 1 ∧ F2b = va_up (va_up F R (n.toNat)) (R + 1) (n.toNat) ∧ G2b = va_up (va_up G R ((tlP n.toNat).1)) (R + 1) ((tlP n.toNat).2) := ⟨congrArg (·.1) hu, congrArg (·.2.1) hu, congrArg (·.2.2) hu⟩
                          refine lv_istore (lv' := [(9, .int (zI (((R + 1 : Nat) : Int)))), (8, .int (zI (((R : Nat) : Int)))), (0, .ref y), (1, .int (zI (n))), (3, .long (lN (a1))), (5, .long (lN (b1)))]) hx hb dX7_told_214 hl (by decide) rfl (fun ls hl => ?_)
                          refine lv_iload hx hb dX7_told_216 (lv_at hl 1 rfl) ?_
                          have hP := hP.sub (ws' := [oM y b (((R + 1 + 1 : Nat) : Int)) (fm) (kn) (pm0) (lm), aI t (b 0) 24 (cN (va_up (va_up F R (n.toNat)) (R + 1) (n.toNat))), aJ t (b 1) 24 (va_up (va_up G R ((tlP n.toNat).1)) (R + 1) ((tlP n.toNat).2))]) [0, 1, 2] rfl
                          have hD := hD.sub (ws' := [oM y b (((R + 1 + 1 : Nat) : Int)) (fm) (kn) (pm0) (lm), aI t (b 0) 24 (cN (va_up (va_up F R (n.toNat)) (R + 1) (n.toNat))), aJ t (b 1) 24 (va_up (va_up G R ((tlP n.toNat).1)) (R + 1) ((tlP n.toNat).2))]) [0, 1, 2] (by decide) rfl
                          exact W.iret (v := (zI (((R : Nat) : Int)))) hx hb hr (fun tq ht hW => ⟨⟨_, (R + 1 + 1, va_up (va_up F R (n.toNat)) (R + 1) (n.toNat), va_up (va_up G R ((tlP n.toNat).1)) (R + 1) ((tlP n.toNat).2)), rfl, by rw [sp_told, if_pos (by omega), if_neg hs, sp_add2_y (by omega)]; exact ⟨rfl, rfl⟩, by rw [ht]; exact hP, va_K.moved hW.alike hK, hD⟩, hS.F ht⟩) hS.2.2 dX7_told_218
                        · have hf : 1 ≤ f := by
                            rcases Nat.eq_zero_or_pos f with z | z
                            · rw [z, Nat.pow_zero, Nat.mul_one] at q3; omega
                            · exact z
                          refine lv_iload hx hb dX7_told_162 (lv_at hl 4 rfl) ?_
                          refine lv_lload_n hx hb dX7_told_164 rfl (lv_at hl 2 rfl) ?_
                          refine lv_lload hx hb dX7_told_165 (lv_at hl 3 rfl) ?_
                          refine vp_callSl (va_runS (As := [.int (zI (q)), .long (lN (a1)), .long (lN (b1))]) (rest := []) ⟨hx, hb, hml, hown, hts⟩ (c_X7_behind l a1 q b1 (by omega)) (va_cwS 3 hts gX7_told_X7_behind rfl rfl rfl (by decide +kernel) ⟨Nat.le_of_ble_eq_true rfl, Nat.le_of_ble_eq_true rfl⟩) ⟨fun a U g mk q => q, fun U hU hW => ⟨rfl, trivial⟩⟩ rfl rfl hl.1 rfl (lv_room (Nat.le_of_ble_eq_true rfl)) dX7_told_167 ⟨Nat.le_of_ble_eq_true rfl, Nat.le_of_ble_eq_true rfl⟩).run (fun r hr167 => ?_)
                          obtain rfl := hr167
                          refine lv_lstore (lv' := [(9, .long (lN (jn (a1) (q) (b1)))), (0, .ref y), (1, .int (zI (n))), (3, .long (lN (a1))), (5, .long (lN (b1))), (8, .int (zI (q)))]) hx hb dX7_told_170 hl (by decide) rfl (fun ls hl => ?_)
                          refine lv_iload hx hb dX7_told_172 (lv_at hl 5 rfl) ?_
                          refine lv_lload_n hx hb dX7_told_174 rfl (lv_at hl 3 rfl) ?_
                          refine lv_iload hx hb dX7_told_175 (lv_at hl 5 rfl) ?_
                          refine lv_lload hx hb dX7_told_177 (lv_at hl 4 rfl) ?_
                          refine vp_callSl (va_runS (As := [.int (zI (q)), .long (lN (b1))]) (rest := [.long (lN (a1)), .int (zI (q))]) ⟨hx, hb, hml, hown, hts⟩ (c_X7_opposite l q b1 (by omega)) (va_cwS 2 hts gX7_told_X7_opposite rfl rfl rfl (by decide +kernel) ⟨Nat.le_of_ble_eq_true rfl, Nat.le_of_ble_eq_true rfl⟩) ⟨fun a U g mk q => q, fun U hU hW => ⟨rfl, trivial⟩⟩ rfl rfl hl.1 rfl (lv_room (Nat.le_of_ble_eq_true rfl)) dX7_told_179 ⟨Nat.le_of_ble_eq_true rfl, Nat.le_of_ble_eq_true rfl⟩).run (fun r hr179 => ?_)
                          obtain rfl := hr179
                          refine vp_callSl (va_runS (As := [.int (zI (q)), .long (lN (a1)), .long (lN ((b1) ^^^ (2 ^ (q) - 1)))]) (rest := []) ⟨hx, hb, hml, hown, hts⟩ (c_X7_behind l a1 q (b1 ^^^ (2 ^ q - 1)) (by omega)) (va_cwS 3 hts gX7_told_X7_behind rfl rfl rfl (by decide +kernel) ⟨Nat.le_of_ble_eq_true rfl, Nat.le_of_ble_eq_true rfl⟩) ⟨fun a U g mk q => q, fun U hU hW => ⟨rfl, trivial⟩⟩ rfl rfl hl.1 rfl (lv_room (Nat.le_of_ble_eq_true rfl)) dX7_told_182 ⟨Nat.le_of_ble_eq_true rfl, Nat.le_of_ble_eq_true rfl⟩).run (fun r hr182 => ?_)
                          obtain rfl := hr182
                          refine lv_lstore (lv' := [(5, .long (lN (jn (a1) (q) ((b1) ^^^ (2 ^ (q) - 1))))), (9, .long (lN (jn (a1) (q) (b1)))), (0, .ref y), (1, .int (zI (n))), (3, .long (lN (a1))), (8, .int (zI (q)))]) hx hb dX7_told_185 hl (by decide) rfl (fun ls hl => ?_)
                          refine lv_lload hx hb dX7_told_187 (lv_at hl 1 rfl) ?_
                          refine lv_lstore_n (lv' := [(3, .long (lN (jn (a1) (q) (b1)))), (5, .long (lN (jn (a1) (q) ((b1) ^^^ (2 ^ (q) - 1))))), (9, .long (lN (jn (a1) (q) (b1)))), (0, .ref y), (1, .int (zI (n))), (8, .int (zI (q)))]) hx hb dX7_told_189 rfl hl (by decide) rfl (fun ls hl => ?_)
                          refine lv_iload hx hb dX7_told_190 (lv_at hl 5 rfl) ?_
                          refine lv_iconst (v := zI 2) hx hb dX7_told_192 rfl ?_
                          refine z_imul hx hb dX7_told_193 ?_
                          refine z_re (e2 := ((2 * q : Nat) : Int)) (by omega) ?_
                          refine lv_istore (lv' := [(8, .int (zI (((2 * q : Nat) : Int)))), (3, .long (lN (jn (a1) (q) (b1)))), (5, .long (lN (jn (a1) (q) ((b1) ^^^ (2 ^ (q) - 1))))), (9, .long (lN (jn (a1) (q) (b1)))), (0, .ref y), (1, .int (zI (n)))]) hx hb dX7_told_194 hl (by decide) rfl (fun ls hl => ?_)
                          refine lv_goto (tgt := 156) hx hb dX7_told_196 (by decide) ?_
                          exact ih156 (f - 1) (2 * q) (jn a1 q b1) (jn a1 q (b1 ^^^ (2 ^ q - 1))) (by omega) (by rw [← q2, show tl f q n.toNat a1 b1 = tl (f - 1 + 1) q n.toNat a1 b1 by rw [show f - 1 + 1 = f by omega], tl_s (by omega)]) (by have z := pw_s hf; rw [z] at q3; rw [Nat.mul_comm 2 q, Nat.mul_assoc]; exact q3) (by omega) (by omega) _ _ hP hD hS _ (lv_sub hl [4, 5, 1, 2, 0] rfl)
                    exact lp156 _ (6) (mfrom n.toNat) (seedA (seedN n.toNat)) (seedB (seedN n.toNat)) (by omega) (by rw [tlP, e1]) (d4) (by omega) (Nat.lt_succ_self _) _ _ hP hD hS _ (lv_sub hl [3, 4, 2, 1, 0] rfl)
                  · refine lv_bipush (v := zI (-3)) hx hb dX7_told_136 (by decide +kernel) ?_
                    have hP := hP.sub (ws' := [oM y b (((R : Nat) : Int)) (fm) (kn) (pm0) (lm), aI t (b 0) 24 (cN (F)), aJ t (b 1) 24 (G)]) [0, 1, 2] rfl
                    have hD := hD.sub (ws' := [oM y b (((R : Nat) : Int)) (fm) (kn) (pm0) (lm), aI t (b 0) 24 (cN (F)), aJ t (b 1) 24 (G)]) [0, 1, 2] (by decide) rfl
                    exact W.iret (v := (zI ((-3)))) hx hb hr (fun tq ht hW => ⟨⟨_, (R, F, G), rfl, by rw [sp_told, if_pos (by omega), if_neg hs, sp_add2_n (by omega)]; exact ⟨rfl, rfl⟩, by rw [ht]; exact hP, va_K.moved hW.alike hK, hD⟩, hS.F ht⟩) hS.2.2 dX7_told_138
                · have hs : seedN n.toNat = 0 := Classical.byContradiction (fun z => c119 (by have z2 := d1.mpr z; omega))
                  refine lv_bipush (v := zI (-4)) hx hb dX7_told_122 (by decide +kernel) ?_
                  have hP := hP.sub (ws' := [oM y b (((R : Nat) : Int)) (fm) (kn) (pm0) (lm), aI t (b 0) 24 (cN (F)), aJ t (b 1) 24 (G)]) [0, 1, 2] rfl
                  have hD := hD.sub (ws' := [oM y b (((R : Nat) : Int)) (fm) (kn) (pm0) (lm), aI t (b 0) 24 (cN (F)), aJ t (b 1) 24 (G)]) [0, 1, 2] (by decide) rfl
                  exact W.iret (v := (zI ((-4)))) hx hb hr (fun tq ht hW => ⟨⟨_, (R, F, G), rfl, by rw [sp_told, if_pos (by omega), if_pos hs]; exact ⟨rfl, rfl⟩, by rw [ht]; exact hP, va_K.moved hW.alike hK, hD⟩, hS.F ht⟩) hS.2.2 dX7_told_124
              · have hf : 1 ≤ f := by
                  rcases Nat.eq_zero_or_pos f with z | z
                  · rw [z, Nat.pow_zero, Nat.mul_one] at q3; omega
                  · exact z
                refine lv_iload hx hb dX7_told_107 (lv_at hl 5 rfl) ?_
                refine lv_iconst (v := zI 2) hx hb dX7_told_109 rfl ?_
                refine z_imul hx hb dX7_told_110 ?_
                refine z_re (e2 := ((h * 2 : Nat) : Int)) (by omega) ?_
                refine lv_istore (lv' := [(7, .int (zI (((h * 2 : Nat) : Int)))), (0, .ref y), (1, .int (zI (n))), (2, .int (zI (((mfrom n.toNat : Nat) : Int)))), (3, .long (lN (mcA (mfrom n.toNat)))), (5, .long (lN (mcB (mfrom n.toNat))))]) hx hb dX7_told_111 hl (by decide) rfl (fun ls hl => ?_)
                refine lv_goto (tgt := 101) hx hb dX7_told_113 (by decide) ?_
                exact ih101 (f - 1) (h * 2) (by omega) (by rw [← q2, show hlf f h n.toNat = hlf (f - 1 + 1) h n.toNat by rw [show f - 1 + 1 = f by omega], hlf_s (by omega)]) (by have z := pw_s hf; rw [z] at q3; rw [Nat.mul_assoc]; exact q3) (by omega) (by omega) _ _ hP hD hS _ (lv_sub hl [1, 2, 3, 4, 5, 0] rfl)
          exact lp101 _ (6) (mfrom n.toNat) (by omega) (rfl) (d4) (by omega) (Nat.lt_succ_self _) _ _ hP hD hS _ (lv_sub hl [1, 2, 3, 4, 5, 0] rfl)
        refine lv_iload_n hx hb dX7_told_71 rfl (lv_at hl 2 rfl) ?_
        refine lv_bipush (v := zI 26) hx hb dX7_told_72 (by decide +kernel) ?_
        refine z_icmp_ne (tgt := 83) hx hb dX7_told_74 (by decide) (by omega) (by omega) (fun c74 => ?_) (fun c74 => ?_)
        · refine lv_iload_n hx hb dX7_told_83 rfl (lv_at hl 2 rfl) ?_
          refine lv_bipush (v := zI 10) hx hb dX7_told_84 (by decide +kernel) ?_
          refine z_icmp_ne (tgt := 95) hx hb dX7_told_86 (by decide) (by omega) (by omega) (fun c86 => ?_) (fun c86 => ?_)
          · refine lv_lconst (v := lN 0) hx hb dX7_told_95 rfl ?_
            refine n_re (e2 := mcB (mfrom n.toNat)) (by unfold mcB; rw [if_neg (by omega), if_neg (by omega)]) ?_
            refine lv_lstore (lv' := [(5, .long (lN (mcB (mfrom n.toNat)))), (0, .ref y), (1, .int (zI (n))), (2, .int (zI (((mfrom n.toNat : Nat) : Int)))), (3, .long (lN (mcA (mfrom n.toNat))))]) hx hb dX7_told_96 hl (by decide) rfl (fun ls hl => ?_)
            exact lp98    _ _ hP hD hS _ (lv_sub hl [1, 2, 3, 4, 0] rfl)
          · refine lv_ldc2 (v := lN 131) hx hb hown (hts (.constantLong RX7 121 (lN 131)) (by decide +kernel)) dX7_told_89 ?_
            refine n_re (e2 := mcB (mfrom n.toNat)) (by unfold mcB; rw [if_neg (by omega), if_pos (by omega)]) ?_
            refine lv_goto (tgt := 96) hx hb dX7_told_92 (by decide) ?_
            refine lv_lstore (lv' := [(5, .long (lN (mcB (mfrom n.toNat)))), (0, .ref y), (1, .int (zI (n))), (2, .int (zI (((mfrom n.toNat : Nat) : Int)))), (3, .long (lN (mcA (mfrom n.toNat))))]) hx hb dX7_told_96 hl (by decide) rfl (fun ls hl => ?_)
            exact lp98    _ _ hP hD hS _ (lv_sub hl [1, 2, 3, 4, 0] rfl)
        · refine lv_ldc2 (v := lN 2523879) hx hb hown (hts (.constantLong RX7 119 (lN 2523879)) (by decide +kernel)) dX7_told_77 ?_
          refine n_re (e2 := mcB (mfrom n.toNat)) (by unfold mcB; rw [if_pos (by omega)]) ?_
          refine lv_goto (tgt := 96) hx hb dX7_told_80 (by decide) ?_
          refine lv_lstore (lv' := [(5, .long (lN (mcB (mfrom n.toNat)))), (0, .ref y), (1, .int (zI (n))), (2, .int (zI (((mfrom n.toNat : Nat) : Int)))), (3, .long (lN (mcA (mfrom n.toNat))))]) hx hb dX7_told_96 hl (by decide) rfl (fun ls hl => ?_)
          exact lp98    _ _ hP hD hS _ (lv_sub hl [1, 2, 3, 4, 0] rfl)
      refine lv_iload_n hx hb dX7_told_45 rfl (lv_at hl 2 rfl) ?_
      refine lv_bipush (v := zI 26) hx hb dX7_told_46 (by decide +kernel) ?_
      refine z_icmp_ne (tgt := 57) hx hb dX7_told_48 (by decide) (by omega) (by omega) (fun c48 => ?_) (fun c48 => ?_)
      · refine lv_iload_n hx hb dX7_told_57 rfl (lv_at hl 2 rfl) ?_
        refine lv_bipush (v := zI 10) hx hb dX7_told_58 (by decide +kernel) ?_
        refine z_icmp_ne (tgt := 69) hx hb dX7_told_60 (by decide) (by omega) (by omega) (fun c60 => ?_) (fun c60 => ?_)
        · refine lv_lconst (v := lN 0) hx hb dX7_told_69 rfl ?_
          refine n_re (e2 := mcA (mfrom n.toNat)) (by unfold mcA; rw [if_neg (by omega), if_neg (by omega)]) ?_
          refine lv_lstore_n (lv' := [(3, .long (lN (mcA (mfrom n.toNat)))), (0, .ref y), (1, .int (zI (n))), (2, .int (zI (((mfrom n.toNat : Nat) : Int))))]) hx hb dX7_told_70 rfl hl (by decide) rfl (fun ls hl => ?_)
          exact lp71    _ _ hP hD hS _ (lv_sub hl [1, 2, 3, 0] rfl)
        · refine lv_ldc2 (v := lN 172) hx hb hown (hts (.constantLong RX7 117 (lN 172)) (by decide +kernel)) dX7_told_63 ?_
          refine n_re (e2 := mcA (mfrom n.toNat)) (by unfold mcA; rw [if_neg (by omega), if_pos (by omega)]) ?_
          refine lv_goto (tgt := 70) hx hb dX7_told_66 (by decide) ?_
          refine lv_lstore_n (lv' := [(3, .long (lN (mcA (mfrom n.toNat)))), (0, .ref y), (1, .int (zI (n))), (2, .int (zI (((mfrom n.toNat : Nat) : Int))))]) hx hb dX7_told_70 rfl hl (by decide) rfl (fun ls hl => ?_)
          exact lp71    _ _ hP hD hS _ (lv_sub hl [1, 2, 3, 0] rfl)
      · refine lv_ldc2 (v := lN 2534680) hx hb hown (hts (.constantLong RX7 115 (lN 2534680)) (by decide +kernel)) dX7_told_51 ?_
        refine n_re (e2 := mcA (mfrom n.toNat)) (by unfold mcA; rw [if_pos (by omega)]) ?_
        refine lv_goto (tgt := 70) hx hb dX7_told_54 (by decide) ?_
        refine lv_lstore_n (lv' := [(3, .long (lN (mcA (mfrom n.toNat)))), (0, .ref y), (1, .int (zI (n))), (2, .int (zI (((mfrom n.toNat : Nat) : Int))))]) hx hb dX7_told_70 rfl hl (by decide) rfl (fun ls hl => ?_)
        exact lp71    _ _ hP hD hS _ (lv_sub hl [1, 2, 3, 0] rfl)
    refine lv_iload_n hx hb dX7_told_14 rfl (lv_at hl 1 rfl) ?_
    refine lv_bipush (v := zI 26) hx hb dX7_told_15 (by decide +kernel) ?_
    refine z_icmp_ne (tgt := 25) hx hb dX7_told_17 (by decide) (by omega) (by omega) (fun c17 => ?_) (fun c17 => ?_)
    · refine lv_iload_n hx hb dX7_told_25 rfl (lv_at hl 1 rfl) ?_
      refine lv_bipush (v := zI 10) hx hb dX7_told_26 (by decide +kernel) ?_
      refine z_irem hx hb (by omega) (by omega) dX7_told_28 ?_
      refine z_if_ne (tgt := 43) hx hb dX7_told_29 (by decide) (by omega) (fun c29 => ?_) (fun c29 => ?_)
      · refine lv_iconst (v := zI 1) hx hb dX7_told_43 rfl ?_
        refine z_re (e2 := ((mfrom n.toNat : Nat) : Int)) (by unfold mfrom; rw [if_neg (by omega), if_neg (by omega)]; rfl) ?_
        refine lv_istore_n (lv' := [(2, .int (zI (((mfrom n.toNat : Nat) : Int)))), (0, .ref y), (1, .int (zI (n)))]) hx hb dX7_told_44 rfl hl (by decide) rfl (fun ls hl => ?_)
        exact lp45    _ _ hP hD hS _ (lv_sub hl [1, 2, 0] rfl)
      · refine lv_iload_n hx hb dX7_told_32 rfl (lv_at hl 1 rfl) ?_
        refine lv_bipush (v := zI 30) hx hb dX7_told_33 (by decide +kernel) ?_
        refine z_icmp_ge (tgt := 43) hx hb dX7_told_35 (by decide) (by omega) (by omega) (fun c35 => ?_) (fun c35 => ?_)
        · refine lv_iconst (v := zI 1) hx hb dX7_told_43 rfl ?_
          refine z_re (e2 := ((mfrom n.toNat : Nat) : Int)) (by unfold mfrom; rw [if_neg (by omega), if_neg (by omega)]; rfl) ?_
          refine lv_istore_n (lv' := [(2, .int (zI (((mfrom n.toNat : Nat) : Int)))), (0, .ref y), (1, .int (zI (n)))]) hx hb dX7_told_44 rfl hl (by decide) rfl (fun ls hl => ?_)
          exact lp45    _ _ hP hD hS _ (lv_sub hl [1, 2, 0] rfl)
        · refine lv_bipush (v := zI 10) hx hb dX7_told_38 (by decide +kernel) ?_
          refine z_re (e2 := ((mfrom n.toNat : Nat) : Int)) (by unfold mfrom; rw [if_neg (by omega), if_pos (by omega)]; rfl) ?_
          refine lv_goto (tgt := 44) hx hb dX7_told_40 (by decide) ?_
          refine lv_istore_n (lv' := [(2, .int (zI (((mfrom n.toNat : Nat) : Int)))), (0, .ref y), (1, .int (zI (n)))]) hx hb dX7_told_44 rfl hl (by decide) rfl (fun ls hl => ?_)
          exact lp45    _ _ hP hD hS _ (lv_sub hl [1, 2, 0] rfl)
    · refine lv_bipush (v := zI 26) hx hb dX7_told_20 (by decide +kernel) ?_
      refine z_re (e2 := ((mfrom n.toNat : Nat) : Int)) (by unfold mfrom; rw [if_pos (by omega)]; rfl) ?_
      refine lv_goto (tgt := 44) hx hb dX7_told_22 (by decide) ?_
      refine lv_istore_n (lv' := [(2, .int (zI (((mfrom n.toNat : Nat) : Int)))), (0, .ref y), (1, .int (zI (n)))]) hx hb dX7_told_44 rfl hl (by decide) rfl (fun ls hl => ?_)
      exact lp45    _ _ hP hD hS _ (lv_sub hl [1, 2, 0] rfl)
  · refine lv_iconst (v := zI (-1)) hx hb dX7_told_12 rfl ?_
    have hP := hP.sub (ws' := [oM y b (((R : Nat) : Int)) (fm) (kn) (pm0) (lm), aI t (b 0) 24 (cN (F)), aJ t (b 1) 24 (G)]) [0, 1, 2] rfl
    have hD := hD.sub (ws' := [oM y b (((R : Nat) : Int)) (fm) (kn) (pm0) (lm), aI t (b 0) 24 (cN (F)), aJ t (b 1) 24 (G)]) [0, 1, 2] (by decide) rfl
    exact W.iret (v := (zI ((-1)))) hx hb hr (fun tq ht hW => ⟨⟨_, (R, F, G), rfl, by rw [sp_told, if_neg (fun z => c9 (by omega))]; exact ⟨rfl, rfl⟩, by rw [ht]; exact hP, va_K.moved hW.alike hK, hD⟩, hS.F ht⟩) hS.2.2 dX7_told_13

-- the check: why
set_option maxHeartbeats 4000000 in
set_option maxRecDepth 100000 in
theorem c_X7_why (l : Launch) (y : Nat) (n : Int) (gn : -2147483648 ≤ n ∧ n < 2147483648) : Met l yX7_why wsX7_why ({ frames := 2, cells := 0, slots := 0, locals := 51 }) (va_Pc [.ref y, .int (zI (n))] (fun _ => True)) (vp_Si (fun r => r = zI (sp_why n))) 0 0 (fun _ => False) := by
  refine Met.ofW (cc := cX7_why) (maxL := 4) (ret := (some .int)) (by decide) rfl ?_
  intro p e s m args below meth c s₁ B hml hv
  obtain ⟨rfl, -⟩ := hv
  have hx := B.exec
  have hb := B.bytes
  have hr := B.returns
  have hts := atoms_spec (ws := wsX7_why) B.pre
  have hown : s.vm.findClass RX7 = some m.cls := findClass_of_methodNamed B.named
  have hlocks := B.notSynchronized
  have hl := lv_entry ([.ref y, .int (zI (n))]) (n := 4) (Nat.le_of_ble_eq_true rfl)
  rw [lg_entry_eq]
  generalize (lg_sl ([.ref y, .int (zI (n))]) ++ List.replicate (4 - (lg_sl ([.ref y, .int (zI (n))])).length) Slot.unset).toArray = ls at hl ⊢
  have hl : lv_has ls 4 [(0, .ref y), (1, .int (zI (n)))] := hl
  refine lv_iload_n hx hb dX7_why_0 rfl (lv_at hl 1 rfl) ?_
  refine z_i2l hx hb (by omega) dX7_why_1 ?_
  refine lv_lconst (v := lN 1) hx hb dX7_why_2 rfl ?_
  refine lv_ldc2 (v := lN 1000000) hx hb hown (hts (.constantLong RX7 126 (lN 1000000)) (by decide +kernel)) dX7_why_3 ?_
  refine vp_callSi (va_runS (As := [.long (zL (n)), .long (lN (1)), .long (lN (1000000))]) (rest := []) ⟨hx, hb, hml, hown, hts⟩ (c_X7_in l _ _ _) (va_cwS 3 hts gX7_why_X7_in rfl rfl rfl (by decide +kernel) ⟨Nat.le_of_ble_eq_true rfl, Nat.le_of_ble_eq_true rfl⟩) ⟨fun a U g mk q => q, fun U hU hW => ⟨rfl, trivial⟩⟩ rfl rfl hl.1 rfl (lv_room (Nat.le_of_ble_eq_true rfl)) dX7_why_6 ⟨Nat.le_of_ble_eq_true rfl, Nat.le_of_ble_eq_true rfl⟩).run (fun r hr6 => ?_)
  have hq6 : r = zI (bP (((1 : Nat) : Int) ≤ n ∧ n ≤ ((1000000 : Nat) : Int))) := by rw [hr6]; exact congrArg zI (bP_cg (by simp only [zL_toInt (e := n) (by omega), lN_toI (n := 1) (by omega), lN_toI (n := 1000000) (by omega)]))
  obtain rfl := hq6
  refine z_ifb_ne (P := ((1 : Nat) : Int) ≤ n ∧ n ≤ ((1000000 : Nat) : Int)) (tgt := 14) hx hb dX7_why_9 (by decide) (fun c9 => ?_) (fun c9 => ?_)
  · refine lv_iload_n hx hb dX7_why_14 rfl (lv_at hl 1 rfl) ?_
    refine lv_iconst (v := zI 2) hx hb dX7_why_15 rfl ?_
    refine z_irem hx hb (by omega) (by omega) dX7_why_16 ?_
    refine lv_iconst (v := zI 1) hx hb dX7_why_17 rfl ?_
    refine z_icmp_ne (tgt := 28) hx hb dX7_why_18 (by decide) (by omega) (by omega) (fun c18 => ?_) (fun c18 => ?_)
    · refine lv_iload_n hx hb dX7_why_28 rfl (lv_at hl 1 rfl) ?_
      refine z_re (e2 := ((n.toNat : Nat) : Int)) (by omega) ?_
      refine lv_iconst (v := zI 2) hx hb dX7_why_29 rfl ?_
      refine vp_callSi (va_runS (As := [.int (zI (((n.toNat : Nat) : Int))), .int (zI (2))]) (rest := []) ⟨hx, hb, hml, hown, hts⟩ (c_X7_ways_1 l n.toNat (by omega)) (va_cwS 2 hts gX7_why_X7_ways rfl rfl rfl (by decide +kernel) ⟨Nat.le_of_ble_eq_true rfl, Nat.le_of_ble_eq_true rfl⟩) ⟨fun a U g mk q => q, fun U hU hW => ⟨rfl, trivial⟩⟩ rfl rfl hl.1 rfl (lv_room (Nat.le_of_ble_eq_true rfl)) dX7_why_30 ⟨Nat.le_of_ble_eq_true rfl, Nat.le_of_ble_eq_true rfl⟩).run (fun r hr30 => ?_)
      obtain rfl := hr30
      refine z_if_ne (tgt := 38) hx hb dX7_why_33 (by decide) (by have z := wy1_bd (n := n.toNat) (by omega) (sqN n.toNat); omega) (fun c33 => ?_) (fun c33 => ?_)
      · refine lv_iload_n hx hb dX7_why_38 rfl (lv_at hl 1 rfl) ?_
        refine z_re (e2 := ((n.toNat : Nat) : Int)) (by omega) ?_
        refine lv_istore_n (lv' := [(2, .int (zI (((n.toNat : Nat) : Int)))), (0, .ref y), (1, .int (zI (n)))]) hx hb dX7_why_39 rfl hl (by decide) rfl (fun ls hl => ?_)
        refine lv_iconst (v := zI 2) hx hb dX7_why_40 rfl ?_
        refine z_re (e2 := ((2 : Nat) : Int)) (rfl) ?_
        refine lv_istore_n (lv' := [(3, .int (zI (((2 : Nat) : Int)))), (2, .int (zI (((n.toNat : Nat) : Int)))), (0, .ref y), (1, .int (zI (n)))]) hx hb dX7_why_41 rfl hl (by decide) rfl (fun ls hl => ?_)
        have lp42 : ∀ (NN : Nat) (q : Nat) (left : Nat) (q1 : 2 ≤ q) (q2 : 1 ≤ left) (q3 : left ≤ 1000000) (q4 : hpb n.toNat = hpb left) (q5 : ∀ d, 2 ≤ d → d < q → ¬ d ∣ left) (q6 : q ≤ 1000001), 1000001 - q < NN → ∀ (ls : Array Slot), lv_has ls 4 [(0, .ref y), (1, .int (zI (n))), (2, .int (zI (left))), (3, .int (zI (q)))] → W p l e (headSpec wsX7_why ({ frames := 2, cells := 0, slots := 0, locals := 51 })).room s m ([.ref y, .int (zI (n))] : List Value).toArray below meth c s.heap [] 0 0 (MQ below (vp_Si (fun r => r = zI (sp_why n))) ([.ref y, .int (zI (n))] : List Value).toArray s 0 0 (fun _ => False)) (F0 m 42 ls []) := by
          intro NN
          induction NN with
          | zero =>
            intro q left q1 q2 q3 q4 q5 q6 hmu
            exact absurd hmu (Nat.not_lt_zero _)
          | succ NN ih42 =>
            intro q left q1 q2 q3 q4 q5 q6 hmu ls hl
            have b0 : left % q < q := Nat.mod_lt left (by omega)
            refine lv_iload_n hx hb dX7_why_42 rfl (lv_at hl 2 rfl) ?_
            refine lv_iconst (v := zI 1) hx hb dX7_why_43 rfl ?_
            refine z_icmp_le (tgt := 81) hx hb dX7_why_44 (by decide) (by omega) (by omega) (fun c44 => ?_) (fun c44 => ?_)
            · refine lv_iconst (v := zI 0) hx hb dX7_why_81 rfl ?_
              exact W.iret (v := (zI (0))) hx hb hr (fun tq ht hW => ⟨_, rfl, by rw [sp_why, if_pos (by omega), if_neg (by omega), if_neg (by omega), if_neg (by rw [q4, show left = 1 by omega, hp_1]; decide)], ht⟩) (fun q h => by cases h) dX7_why_82
            · have b1 := min_le (by omega) q5
              refine lv_iload_n hx hb dX7_why_47 rfl (lv_at hl 2 rfl) ?_
              refine lv_iload_n hx hb dX7_why_48 rfl (lv_at hl 3 rfl) ?_
              refine z_irem hx hb (by omega) (by omega) dX7_why_49 ?_
              refine z_re (e2 := ((left % q : Nat) : Int)) (by rw [Int.natCast_emod]) ?_
              refine z_if_ne (tgt := 75) hx hb dX7_why_50 (by decide) (by omega) (fun c50 => ?_) (fun c50 => ?_)
              · refine lv_iinc (v := zI (((q + 1 : Nat) : Int))) (lv' := [(3, .int (zI (((q + 1 : Nat) : Int)))), (0, .ref y), (1, .int (zI (n))), (2, .int (zI (left)))]) hx hb dX7_why_75 hl (k := 3) rfl (zI_incr (by omega)) (by decide) rfl (fun ls hl => ?_)
                refine lv_goto (tgt := 42) hx hb dX7_why_78 (by decide) ?_
                exact ih42 (q + 1) (left) (by omega) (by omega) (by omega) (by first | exact r2 | exact q4) (min_next (by omega) q5) (by omega) (by omega) _ (lv_sub hl [1, 2, 3, 0] rfl)
              · refine lv_iload_n hx hb dX7_why_53 rfl (lv_at hl 3 rfl) ?_
                refine lv_iconst (v := zI 4) hx hb dX7_why_54 rfl ?_
                refine z_irem hx hb (by omega) (by omega) dX7_why_55 ?_
                refine z_re (e2 := ((q % 4 : Nat) : Int)) (by omega) ?_
                refine lv_iconst (v := zI 3) hx hb dX7_why_56 rfl ?_
                refine z_icmp_ne (tgt := 62) hx hb dX7_why_57 (by decide) (by omega) (by omega) (fun c57 => ?_) (fun c57 => ?_)
                · have h3 : ¬ q % 4 = 3 := by omega
                  have lp62 : ∀ (NN : Nat) (left2 : Nat) (r1 : 1 ≤ left2) (r4 : left2 ≤ left) (r2 : hpb n.toNat = hpb left2) (r3 : ∀ d, 2 ≤ d → d < q → ¬ d ∣ left2), left2 < NN → ∀ (ls : Array Slot), lv_has ls 4 [(0, .ref y), (1, .int (zI (n))), (2, .int (zI (left2))), (3, .int (zI (q)))] → W p l e (headSpec wsX7_why ({ frames := 2, cells := 0, slots := 0, locals := 51 })).room s m ([.ref y, .int (zI (n))] : List Value).toArray below meth c s.heap [] 0 0 (MQ below (vp_Si (fun r => r = zI (sp_why n))) ([.ref y, .int (zI (n))] : List Value).toArray s 0 0 (fun _ => False)) (F0 m 62 ls []) := by
                    intro NN
                    induction NN with
                    | zero =>
                      intro left2 r1 r4 r2 r3 hmu
                      exact absurd hmu (Nat.not_lt_zero _)
                    | succ NN ih62 =>
                      intro left2 r1 r4 r2 r3 hmu ls hl
                      have b1 : left2 % q < q := Nat.mod_lt left2 (by omega)
                      have b2 := div_lt' r1 q1
                      refine lv_iload_n hx hb dX7_why_62 rfl (lv_at hl 2 rfl) ?_
                      refine lv_iload_n hx hb dX7_why_63 rfl (lv_at hl 3 rfl) ?_
                      refine z_irem hx hb (by omega) (by omega) dX7_why_64 ?_
                      refine z_re (e2 := ((left2 % q : Nat) : Int)) (by rw [Int.natCast_emod]) ?_
                      refine z_if_ne (tgt := 75) hx hb dX7_why_65 (by decide) (by omega) (fun c65 => ?_) (fun c65 => ?_)
                      · refine lv_iinc (v := zI (((q + 1 : Nat) : Int))) (lv' := [(3, .int (zI (((q + 1 : Nat) : Int)))), (0, .ref y), (1, .int (zI (n))), (2, .int (zI (left2)))]) hx hb dX7_why_75 hl (k := 3) rfl (zI_incr (by omega)) (by decide) rfl (fun ls hl => ?_)
                        refine lv_goto (tgt := 42) hx hb dX7_why_78 (by decide) ?_
                        exact ih42 (q + 1) (left2) (by omega) (by omega) (by omega) (by first | exact r2 | exact q4) (min_next (by omega) r3) (by omega) (by omega) _ (lv_sub hl [1, 2, 3, 0] rfl)
                      · refine lv_iload_n hx hb dX7_why_68 rfl (lv_at hl 2 rfl) ?_
                        refine lv_iload_n hx hb dX7_why_69 rfl (lv_at hl 3 rfl) ?_
                        refine z_idiv hx hb (by omega) (by omega) dX7_why_70 ?_
                        refine z_re (e2 := ((left2 / q : Nat) : Int)) (by rw [Int.natCast_ediv]) ?_
                        refine lv_istore_n (lv' := [(2, .int (zI (((left2 / q : Nat) : Int)))), (0, .ref y), (1, .int (zI (n))), (3, .int (zI (q)))]) hx hb dX7_why_71 rfl hl (by decide) rfl (fun ls hl => ?_)
                        refine lv_goto (tgt := 62) hx hb dX7_why_72 (by decide) ?_
                        exact ih62 (left2 / q) (div_pos' r1 (by omega) (by omega)) (by omega) (by rw [r2]; exact hp_step r1 q1 (by omega) r3 h3) (min_keep (by omega) (by omega) r3) (by omega) _ (lv_sub hl [1, 2, 0, 3] rfl)
                  exact lp62 _ (left) (by omega) (by omega) (q4) (q5) (Nat.lt_succ_self _) _ (lv_sub hl [0, 1, 2, 3] rfl)
                · refine lv_iconst (v := zI 3) hx hb dX7_why_60 rfl ?_
                  exact W.iret (v := (zI (3))) hx hb hr (fun tq ht hW => ⟨_, rfl, by rw [sp_why, if_pos (by omega), if_neg (by omega), if_neg (by omega), if_pos (by rw [q4]; exact hp_mod (p := q) q2 (by omega) (by omega))], ht⟩) (fun q h => by cases h) dX7_why_61
        exact lp42 _ (2) (n.toNat) (by omega) (by omega) (by omega) (rfl) (fun d h1 h2 => by omega) (by omega) (Nat.lt_succ_self _) _ (lv_sub hl [2, 3, 1, 0] rfl)
      · refine lv_iconst (v := zI 2) hx hb dX7_why_36 rfl ?_
        exact W.iret (v := (zI (2))) hx hb hr (fun tq ht hW => ⟨_, rfl, by rw [sp_why, if_pos (by omega), if_neg (by omega), if_pos (by omega)], ht⟩) (fun q h => by cases h) dX7_why_37
    · refine lv_iload_n hx hb dX7_why_21 rfl (lv_at hl 1 rfl) ?_
      refine lv_iconst (v := zI 1) hx hb dX7_why_22 rfl ?_
      refine z_icmp_le (tgt := 28) hx hb dX7_why_23 (by decide) (by omega) (by omega) (fun c23 => ?_) (fun c23 => ?_)
      · refine lv_iload_n hx hb dX7_why_28 rfl (lv_at hl 1 rfl) ?_
        refine z_re (e2 := ((n.toNat : Nat) : Int)) (by omega) ?_
        refine lv_iconst (v := zI 2) hx hb dX7_why_29 rfl ?_
        refine vp_callSi (va_runS (As := [.int (zI (((n.toNat : Nat) : Int))), .int (zI (2))]) (rest := []) ⟨hx, hb, hml, hown, hts⟩ (c_X7_ways_1 l n.toNat (by omega)) (va_cwS 2 hts gX7_why_X7_ways rfl rfl rfl (by decide +kernel) ⟨Nat.le_of_ble_eq_true rfl, Nat.le_of_ble_eq_true rfl⟩) ⟨fun a U g mk q => q, fun U hU hW => ⟨rfl, trivial⟩⟩ rfl rfl hl.1 rfl (lv_room (Nat.le_of_ble_eq_true rfl)) dX7_why_30 ⟨Nat.le_of_ble_eq_true rfl, Nat.le_of_ble_eq_true rfl⟩).run (fun r hr30 => ?_)
        obtain rfl := hr30
        refine z_if_ne (tgt := 38) hx hb dX7_why_33 (by decide) (by have z := wy1_bd (n := n.toNat) (by omega) (sqN n.toNat); omega) (fun c33 => ?_) (fun c33 => ?_)
        · refine lv_iload_n hx hb dX7_why_38 rfl (lv_at hl 1 rfl) ?_
          refine z_re (e2 := ((n.toNat : Nat) : Int)) (by omega) ?_
          refine lv_istore_n (lv' := [(2, .int (zI (((n.toNat : Nat) : Int)))), (0, .ref y), (1, .int (zI (n)))]) hx hb dX7_why_39 rfl hl (by decide) rfl (fun ls hl => ?_)
          refine lv_iconst (v := zI 2) hx hb dX7_why_40 rfl ?_
          refine z_re (e2 := ((2 : Nat) : Int)) (rfl) ?_
          refine lv_istore_n (lv' := [(3, .int (zI (((2 : Nat) : Int)))), (2, .int (zI (((n.toNat : Nat) : Int)))), (0, .ref y), (1, .int (zI (n)))]) hx hb dX7_why_41 rfl hl (by decide) rfl (fun ls hl => ?_)
          have lp42 : ∀ (NN : Nat) (q : Nat) (left : Nat) (q1 : 2 ≤ q) (q2 : 1 ≤ left) (q3 : left ≤ 1000000) (q4 : hpb n.toNat = hpb left) (q5 : ∀ d, 2 ≤ d → d < q → ¬ d ∣ left) (q6 : q ≤ 1000001), 1000001 - q < NN → ∀ (ls : Array Slot), lv_has ls 4 [(0, .ref y), (1, .int (zI (n))), (2, .int (zI (left))), (3, .int (zI (q)))] → W p l e (headSpec wsX7_why ({ frames := 2, cells := 0, slots := 0, locals := 51 })).room s m ([.ref y, .int (zI (n))] : List Value).toArray below meth c s.heap [] 0 0 (MQ below (vp_Si (fun r => r = zI (sp_why n))) ([.ref y, .int (zI (n))] : List Value).toArray s 0 0 (fun _ => False)) (F0 m 42 ls []) := by
            intro NN
            induction NN with
            | zero =>
              intro q left q1 q2 q3 q4 q5 q6 hmu
              exact absurd hmu (Nat.not_lt_zero _)
            | succ NN ih42 =>
              intro q left q1 q2 q3 q4 q5 q6 hmu ls hl
              have b0 : left % q < q := Nat.mod_lt left (by omega)
              refine lv_iload_n hx hb dX7_why_42 rfl (lv_at hl 2 rfl) ?_
              refine lv_iconst (v := zI 1) hx hb dX7_why_43 rfl ?_
              refine z_icmp_le (tgt := 81) hx hb dX7_why_44 (by decide) (by omega) (by omega) (fun c44 => ?_) (fun c44 => ?_)
              · refine lv_iconst (v := zI 0) hx hb dX7_why_81 rfl ?_
                exact W.iret (v := (zI (0))) hx hb hr (fun tq ht hW => ⟨_, rfl, by rw [sp_why, if_pos (by omega), if_neg (by omega), if_neg (by omega), if_neg (by rw [q4, show left = 1 by omega, hp_1]; decide)], ht⟩) (fun q h => by cases h) dX7_why_82
              · have b1 := min_le (by omega) q5
                refine lv_iload_n hx hb dX7_why_47 rfl (lv_at hl 2 rfl) ?_
                refine lv_iload_n hx hb dX7_why_48 rfl (lv_at hl 3 rfl) ?_
                refine z_irem hx hb (by omega) (by omega) dX7_why_49 ?_
                refine z_re (e2 := ((left % q : Nat) : Int)) (by rw [Int.natCast_emod]) ?_
                refine z_if_ne (tgt := 75) hx hb dX7_why_50 (by decide) (by omega) (fun c50 => ?_) (fun c50 => ?_)
                · refine lv_iinc (v := zI (((q + 1 : Nat) : Int))) (lv' := [(3, .int (zI (((q + 1 : Nat) : Int)))), (0, .ref y), (1, .int (zI (n))), (2, .int (zI (left)))]) hx hb dX7_why_75 hl (k := 3) rfl (zI_incr (by omega)) (by decide) rfl (fun ls hl => ?_)
                  refine lv_goto (tgt := 42) hx hb dX7_why_78 (by decide) ?_
                  exact ih42 (q + 1) (left) (by omega) (by omega) (by omega) (by first | exact r2 | exact q4) (min_next (by omega) q5) (by omega) (by omega) _ (lv_sub hl [1, 2, 3, 0] rfl)
                · refine lv_iload_n hx hb dX7_why_53 rfl (lv_at hl 3 rfl) ?_
                  refine lv_iconst (v := zI 4) hx hb dX7_why_54 rfl ?_
                  refine z_irem hx hb (by omega) (by omega) dX7_why_55 ?_
                  refine z_re (e2 := ((q % 4 : Nat) : Int)) (by omega) ?_
                  refine lv_iconst (v := zI 3) hx hb dX7_why_56 rfl ?_
                  refine z_icmp_ne (tgt := 62) hx hb dX7_why_57 (by decide) (by omega) (by omega) (fun c57 => ?_) (fun c57 => ?_)
                  · have h3 : ¬ q % 4 = 3 := by omega
                    have lp62 : ∀ (NN : Nat) (left2 : Nat) (r1 : 1 ≤ left2) (r4 : left2 ≤ left) (r2 : hpb n.toNat = hpb left2) (r3 : ∀ d, 2 ≤ d → d < q → ¬ d ∣ left2), left2 < NN → ∀ (ls : Array Slot), lv_has ls 4 [(0, .ref y), (1, .int (zI (n))), (2, .int (zI (left2))), (3, .int (zI (q)))] → W p l e (headSpec wsX7_why ({ frames := 2, cells := 0, slots := 0, locals := 51 })).room s m ([.ref y, .int (zI (n))] : List Value).toArray below meth c s.heap [] 0 0 (MQ below (vp_Si (fun r => r = zI (sp_why n))) ([.ref y, .int (zI (n))] : List Value).toArray s 0 0 (fun _ => False)) (F0 m 62 ls []) := by
                      intro NN
                      induction NN with
                      | zero =>
                        intro left2 r1 r4 r2 r3 hmu
                        exact absurd hmu (Nat.not_lt_zero _)
                      | succ NN ih62 =>
                        intro left2 r1 r4 r2 r3 hmu ls hl
                        have b1 : left2 % q < q := Nat.mod_lt left2 (by omega)
                        have b2 := div_lt' r1 q1
                        refine lv_iload_n hx hb dX7_why_62 rfl (lv_at hl 2 rfl) ?_
                        refine lv_iload_n hx hb dX7_why_63 rfl (lv_at hl 3 rfl) ?_
                        refine z_irem hx hb (by omega) (by omega) dX7_why_64 ?_
                        refine z_re (e2 := ((left2 % q : Nat) : Int)) (by rw [Int.natCast_emod]) ?_
                        refine z_if_ne (tgt := 75) hx hb dX7_why_65 (by decide) (by omega) (fun c65 => ?_) (fun c65 => ?_)
                        · refine lv_iinc (v := zI (((q + 1 : Nat) : Int))) (lv' := [(3, .int (zI (((q + 1 : Nat) : Int)))), (0, .ref y), (1, .int (zI (n))), (2, .int (zI (left2)))]) hx hb dX7_why_75 hl (k := 3) rfl (zI_incr (by omega)) (by decide) rfl (fun ls hl => ?_)
                          refine lv_goto (tgt := 42) hx hb dX7_why_78 (by decide) ?_
                          exact ih42 (q + 1) (left2) (by omega) (by omega) (by omega) (by first | exact r2 | exact q4) (min_next (by omega) r3) (by omega) (by omega) _ (lv_sub hl [1, 2, 3, 0] rfl)
                        · refine lv_iload_n hx hb dX7_why_68 rfl (lv_at hl 2 rfl) ?_
                          refine lv_iload_n hx hb dX7_why_69 rfl (lv_at hl 3 rfl) ?_
                          refine z_idiv hx hb (by omega) (by omega) dX7_why_70 ?_
                          refine z_re (e2 := ((left2 / q : Nat) : Int)) (by rw [Int.natCast_ediv]) ?_
                          refine lv_istore_n (lv' := [(2, .int (zI (((left2 / q : Nat) : Int)))), (0, .ref y), (1, .int (zI (n))), (3, .int (zI (q)))]) hx hb dX7_why_71 rfl hl (by decide) rfl (fun ls hl => ?_)
                          refine lv_goto (tgt := 62) hx hb dX7_why_72 (by decide) ?_
                          exact ih62 (left2 / q) (div_pos' r1 (by omega) (by omega)) (by omega) (by rw [r2]; exact hp_step r1 q1 (by omega) r3 h3) (min_keep (by omega) (by omega) r3) (by omega) _ (lv_sub hl [1, 2, 0, 3] rfl)
                    exact lp62 _ (left) (by omega) (by omega) (q4) (q5) (Nat.lt_succ_self _) _ (lv_sub hl [0, 1, 2, 3] rfl)
                  · refine lv_iconst (v := zI 3) hx hb dX7_why_60 rfl ?_
                    exact W.iret (v := (zI (3))) hx hb hr (fun tq ht hW => ⟨_, rfl, by rw [sp_why, if_pos (by omega), if_neg (by omega), if_neg (by omega), if_pos (by rw [q4]; exact hp_mod (p := q) q2 (by omega) (by omega))], ht⟩) (fun q h => by cases h) dX7_why_61
          exact lp42 _ (2) (n.toNat) (by omega) (by omega) (by omega) (rfl) (fun d h1 h2 => by omega) (by omega) (Nat.lt_succ_self _) _ (lv_sub hl [2, 3, 1, 0] rfl)
        · refine lv_iconst (v := zI 2) hx hb dX7_why_36 rfl ?_
          exact W.iret (v := (zI (2))) hx hb hr (fun tq ht hW => ⟨_, rfl, by rw [sp_why, if_pos (by omega), if_neg (by omega), if_pos (by omega)], ht⟩) (fun q h => by cases h) dX7_why_37
      · refine lv_iconst (v := zI 1) hx hb dX7_why_26 rfl ?_
        exact W.iret (v := (zI (1))) hx hb hr (fun tq ht hW => ⟨_, rfl, by rw [sp_why, if_pos (by omega), if_pos (by omega)], ht⟩) (fun q h => by cases h) dX7_why_27
  · refine lv_iconst (v := zI (-1)) hx hb dX7_why_12 rfl ?_
    exact W.iret (v := (zI ((-1)))) hx hb hr (fun tq ht hW => ⟨_, rfl, by rw [sp_why, if_neg (by omega)], ht⟩) (fun q h => by cases h) dX7_why_13

-- the check: squares
set_option maxHeartbeats 4000000 in
set_option maxRecDepth 100000 in
theorem c_X7_squares (l : Launch) (y : Nat) (n k : Int) (gn : -2147483648 ≤ n ∧ n < 2147483648) (gk : -2147483648 ≤ k ∧ k < 2147483648) : Met l yX7_squares wsX7_squares ({ frames := 2, cells := 0, slots := 0, locals := 51 }) (va_Pc [.ref y, .int (zI (n)), .int (zI (k))] (fun _ => True)) (vp_Si (fun r => r = zI (sp_squares n k))) 0 0 (fun _ => False) := by
  refine Met.ofW (cc := cX7_squares) (maxL := 3) (ret := (some .int)) (by decide) rfl ?_
  intro p e s m args below meth c s₁ B hml hv
  obtain ⟨rfl, -⟩ := hv
  have hx := B.exec
  have hb := B.bytes
  have hr := B.returns
  have hts := atoms_spec (ws := wsX7_squares) B.pre
  have hown : s.vm.findClass RX7 = some m.cls := findClass_of_methodNamed B.named
  have hlocks := B.notSynchronized
  have hl := lv_entry ([.ref y, .int (zI (n)), .int (zI (k))]) (n := 3) (Nat.le_of_ble_eq_true rfl)
  rw [lg_entry_eq]
  generalize (lg_sl ([.ref y, .int (zI (n)), .int (zI (k))]) ++ List.replicate (3 - (lg_sl ([.ref y, .int (zI (n)), .int (zI (k))])).length) Slot.unset).toArray = ls at hl ⊢
  have hl : lv_has ls 3 [(0, .ref y), (1, .int (zI (n))), (2, .int (zI (k)))] := hl
  refine lv_iload_n hx hb dX7_squares_0 rfl (lv_at hl 2 rfl) ?_
  refine z_i2l hx hb (by omega) dX7_squares_1 ?_
  refine lv_lconst (v := lN 1) hx hb dX7_squares_2 rfl ?_
  refine lv_ldc2 (v := lN 4) hx hb hown (hts (.constantLong RX7 136 (lN 4)) (by decide +kernel)) dX7_squares_3 ?_
  refine vp_callSi (va_runS (As := [.long (zL (k)), .long (lN (1)), .long (lN (4))]) (rest := []) ⟨hx, hb, hml, hown, hts⟩ (c_X7_in l _ _ _) (va_cwS 3 hts gX7_squares_X7_in rfl rfl rfl (by decide +kernel) ⟨Nat.le_of_ble_eq_true rfl, Nat.le_of_ble_eq_true rfl⟩) ⟨fun a U g mk q => q, fun U hU hW => ⟨rfl, trivial⟩⟩ rfl rfl hl.1 rfl (lv_room (Nat.le_of_ble_eq_true rfl)) dX7_squares_6 ⟨Nat.le_of_ble_eq_true rfl, Nat.le_of_ble_eq_true rfl⟩).run (fun r hr6 => ?_)
  have hq6 : r = zI (bP (((1 : Nat) : Int) ≤ k ∧ k ≤ ((4 : Nat) : Int))) := by rw [hr6]; exact congrArg zI (bP_cg (by simp only [zL_toInt (e := k) (by omega), lN_toI (n := 1) (by omega), lN_toI (n := 4) (by omega)]))
  obtain rfl := hq6
  refine z_ifb_eq (P := ((1 : Nat) : Int) ≤ k ∧ k ≤ ((4 : Nat) : Int)) (tgt := 43) hx hb dX7_squares_9 (by decide) (fun c9 => ?_) (fun c9 => ?_)
  · refine lv_iconst (v := zI (-1)) hx hb dX7_squares_43 rfl ?_
    exact W.iret (v := (zI ((-1)))) hx hb hr (fun tq ht hW => ⟨_, rfl, by rw [sp_squares, if_neg (fun z => c9 (by omega))], ht⟩) (fun q h => by cases h) dX7_squares_44
  · refine lv_iload_n hx hb dX7_squares_12 rfl (lv_at hl 1 rfl) ?_
    refine z_i2l hx hb (by omega) dX7_squares_13 ?_
    refine lv_lconst (v := lN 0) hx hb dX7_squares_14 rfl ?_
    refine lv_iload_n hx hb dX7_squares_15 rfl (lv_at hl 2 rfl) ?_
    refine lv_iconst (v := zI 2) hx hb dX7_squares_16 rfl ?_
    refine z_icmp_le (tgt := 26) hx hb dX7_squares_17 (by decide) (by omega) (by omega) (fun c17 => ?_) (fun c17 => ?_)
    · refine lv_ldc2 (v := lN 1000000) hx hb hown (hts (.constantLong RX7 126 (lN 1000000)) (by decide +kernel)) dX7_squares_26 ?_
      refine vp_callSi (va_runS (As := [.long (zL (n)), .long (lN (0)), .long (lN (1000000))]) (rest := []) ⟨hx, hb, hml, hown, hts⟩ (c_X7_in l _ _ _) (va_cwS 3 hts gX7_squares_X7_in rfl rfl rfl (by decide +kernel) ⟨Nat.le_of_ble_eq_true rfl, Nat.le_of_ble_eq_true rfl⟩) ⟨fun a U g mk q => q, fun U hU hW => ⟨rfl, trivial⟩⟩ rfl rfl hl.1 rfl (lv_room (Nat.le_of_ble_eq_true rfl)) dX7_squares_29 ⟨Nat.le_of_ble_eq_true rfl, Nat.le_of_ble_eq_true rfl⟩).run (fun r hr29 => ?_)
      have hq29 : r = zI (bP (((0 : Nat) : Int) ≤ n ∧ n ≤ ((1000000 : Nat) : Int))) := by rw [hr29]; exact congrArg zI (bP_cg (by simp only [zL_toInt (e := n) (by omega), lN_toI (n := 0) (by omega), lN_toI (n := 1000000) (by omega)]))
      obtain rfl := hq29
      refine z_ifb_eq (P := ((0 : Nat) : Int) ≤ n ∧ n ≤ ((1000000 : Nat) : Int)) (tgt := 43) hx hb dX7_squares_32 (by decide) (fun c32 => ?_) (fun c32 => ?_)
      · refine lv_iconst (v := zI (-1)) hx hb dX7_squares_43 rfl ?_
        exact W.iret (v := (zI ((-1)))) hx hb hr (fun tq ht hW => ⟨_, rfl, by rw [sp_squares, if_neg (fun z => c32 (by have y2 := z.2; rw [if_pos (by omega)] at y2; omega))], ht⟩) (fun q h => by cases h) dX7_squares_44
      · rcases (show k = 1 ∨ k = 2 ∨ k = 3 ∨ k = 4 by omega) with rfl | rfl | rfl | rfl
        · refine lv_iload_n hx hb dX7_squares_35 rfl (lv_at hl 1 rfl) ?_
          refine z_re (e2 := ((n.toNat : Nat) : Int)) (by omega) ?_
          refine lv_iload_n hx hb dX7_squares_36 rfl (lv_at hl 2 rfl) ?_
          refine vp_callSi (va_runS (As := [.int (zI (((n.toNat : Nat) : Int))), .int (zI (1))]) (rest := []) ⟨hx, hb, hml, hown, hts⟩ (c_X7_ways_0 l n.toNat (by omega)) (va_cwS 2 hts gX7_squares_X7_ways rfl rfl rfl (by decide +kernel) ⟨Nat.le_of_ble_eq_true rfl, Nat.le_of_ble_eq_true rfl⟩) ⟨fun a U g mk q => q, fun U hU hW => ⟨rfl, trivial⟩⟩ rfl rfl hl.1 rfl (lv_room (Nat.le_of_ble_eq_true rfl)) dX7_squares_37 ⟨Nat.le_of_ble_eq_true rfl, Nat.le_of_ble_eq_true rfl⟩).run (fun r hr37 => ?_)
          obtain rfl := hr37
          refine lv_goto (tgt := 44) hx hb dX7_squares_40 (by decide) ?_
          exact W.iret (v := (zI (((wy 0 (n.toNat) (sqN (n.toNat)) : Nat) : Int)))) hx hb hr (fun tq ht hW => ⟨_, rfl, by rw [sp_squares, if_pos ⟨by omega, by rw [if_pos (by omega)]; omega⟩]; rfl, ht⟩) (fun q h => by cases h) dX7_squares_44
        · refine lv_iload_n hx hb dX7_squares_35 rfl (lv_at hl 1 rfl) ?_
          refine z_re (e2 := ((n.toNat : Nat) : Int)) (by omega) ?_
          refine lv_iload_n hx hb dX7_squares_36 rfl (lv_at hl 2 rfl) ?_
          refine vp_callSi (va_runS (As := [.int (zI (((n.toNat : Nat) : Int))), .int (zI (2))]) (rest := []) ⟨hx, hb, hml, hown, hts⟩ (c_X7_ways_1 l n.toNat (by omega)) (va_cwS 2 hts gX7_squares_X7_ways rfl rfl rfl (by decide +kernel) ⟨Nat.le_of_ble_eq_true rfl, Nat.le_of_ble_eq_true rfl⟩) ⟨fun a U g mk q => q, fun U hU hW => ⟨rfl, trivial⟩⟩ rfl rfl hl.1 rfl (lv_room (Nat.le_of_ble_eq_true rfl)) dX7_squares_37 ⟨Nat.le_of_ble_eq_true rfl, Nat.le_of_ble_eq_true rfl⟩).run (fun r hr37 => ?_)
          obtain rfl := hr37
          refine lv_goto (tgt := 44) hx hb dX7_squares_40 (by decide) ?_
          exact W.iret (v := (zI (((wy 1 (n.toNat) (sqN (n.toNat)) : Nat) : Int)))) hx hb hr (fun tq ht hW => ⟨_, rfl, by rw [sp_squares, if_pos ⟨by omega, by rw [if_pos (by omega)]; omega⟩]; rfl, ht⟩) (fun q h => by cases h) dX7_squares_44
        · refine lv_iload_n hx hb dX7_squares_35 rfl (lv_at hl 1 rfl) ?_
          refine z_re (e2 := ((n.toNat : Nat) : Int)) (by omega) ?_
          refine lv_iload_n hx hb dX7_squares_36 rfl (lv_at hl 2 rfl) ?_
          refine vp_callSi (va_runS (As := [.int (zI (((n.toNat : Nat) : Int))), .int (zI (3))]) (rest := []) ⟨hx, hb, hml, hown, hts⟩ (c_X7_ways_2 l n.toNat (by omega)) (va_cwS 2 hts gX7_squares_X7_ways rfl rfl rfl (by decide +kernel) ⟨Nat.le_of_ble_eq_true rfl, Nat.le_of_ble_eq_true rfl⟩) ⟨fun a U g mk q => q, fun U hU hW => ⟨rfl, trivial⟩⟩ rfl rfl hl.1 rfl (lv_room (Nat.le_of_ble_eq_true rfl)) dX7_squares_37 ⟨Nat.le_of_ble_eq_true rfl, Nat.le_of_ble_eq_true rfl⟩).run (fun r hr37 => ?_)
          obtain rfl := hr37
          refine lv_goto (tgt := 44) hx hb dX7_squares_40 (by decide) ?_
          exact W.iret (v := (zI (((wy 2 (n.toNat) (sqN (n.toNat)) : Nat) : Int)))) hx hb hr (fun tq ht hW => ⟨_, rfl, by rw [sp_squares, if_pos ⟨by omega, by rw [if_pos (by omega)]; omega⟩]; rfl, ht⟩) (fun q h => by cases h) dX7_squares_44
        · refine lv_iload_n hx hb dX7_squares_35 rfl (lv_at hl 1 rfl) ?_
          refine z_re (e2 := ((n.toNat : Nat) : Int)) (by omega) ?_
          refine lv_iload_n hx hb dX7_squares_36 rfl (lv_at hl 2 rfl) ?_
          refine vp_callSi (va_runS (As := [.int (zI (((n.toNat : Nat) : Int))), .int (zI (4))]) (rest := []) ⟨hx, hb, hml, hown, hts⟩ (c_X7_ways_3 l n.toNat (by omega)) (va_cwS 2 hts gX7_squares_X7_ways rfl rfl rfl (by decide +kernel) ⟨Nat.le_of_ble_eq_true rfl, Nat.le_of_ble_eq_true rfl⟩) ⟨fun a U g mk q => q, fun U hU hW => ⟨rfl, trivial⟩⟩ rfl rfl hl.1 rfl (lv_room (Nat.le_of_ble_eq_true rfl)) dX7_squares_37 ⟨Nat.le_of_ble_eq_true rfl, Nat.le_of_ble_eq_true rfl⟩).run (fun r hr37 => ?_)
          obtain rfl := hr37
          refine lv_goto (tgt := 44) hx hb dX7_squares_40 (by decide) ?_
          exact W.iret (v := (zI (((wy 3 (n.toNat) (sqN (n.toNat)) : Nat) : Int)))) hx hb hr (fun tq ht hW => ⟨_, rfl, by rw [sp_squares, if_pos ⟨by omega, by rw [if_pos (by omega)]; omega⟩]; rfl, ht⟩) (fun q h => by cases h) dX7_squares_44
    · refine lv_ldc2 (v := lN 1000) hx hb hown (hts (.constantLong RX7 138 (lN 1000)) (by decide +kernel)) dX7_squares_20 ?_
      refine lv_goto (tgt := 29) hx hb dX7_squares_23 (by decide) ?_
      refine vp_callSi (va_runS (As := [.long (zL (n)), .long (lN (0)), .long (lN (1000))]) (rest := []) ⟨hx, hb, hml, hown, hts⟩ (c_X7_in l _ _ _) (va_cwS 3 hts gX7_squares_X7_in rfl rfl rfl (by decide +kernel) ⟨Nat.le_of_ble_eq_true rfl, Nat.le_of_ble_eq_true rfl⟩) ⟨fun a U g mk q => q, fun U hU hW => ⟨rfl, trivial⟩⟩ rfl rfl hl.1 rfl (lv_room (Nat.le_of_ble_eq_true rfl)) dX7_squares_29 ⟨Nat.le_of_ble_eq_true rfl, Nat.le_of_ble_eq_true rfl⟩).run (fun r hr29 => ?_)
      have hq29 : r = zI (bP (((0 : Nat) : Int) ≤ n ∧ n ≤ ((1000 : Nat) : Int))) := by rw [hr29]; exact congrArg zI (bP_cg (by simp only [zL_toInt (e := n) (by omega), lN_toI (n := 0) (by omega), lN_toI (n := 1000) (by omega)]))
      obtain rfl := hq29
      refine z_ifb_eq (P := ((0 : Nat) : Int) ≤ n ∧ n ≤ ((1000 : Nat) : Int)) (tgt := 43) hx hb dX7_squares_32 (by decide) (fun c32 => ?_) (fun c32 => ?_)
      · refine lv_iconst (v := zI (-1)) hx hb dX7_squares_43 rfl ?_
        exact W.iret (v := (zI ((-1)))) hx hb hr (fun tq ht hW => ⟨_, rfl, by rw [sp_squares, if_neg (fun z => c32 (by have y2 := z.2; rw [if_neg (by omega)] at y2; omega))], ht⟩) (fun q h => by cases h) dX7_squares_44
      · rcases (show k = 1 ∨ k = 2 ∨ k = 3 ∨ k = 4 by omega) with rfl | rfl | rfl | rfl
        · refine lv_iload_n hx hb dX7_squares_35 rfl (lv_at hl 1 rfl) ?_
          refine z_re (e2 := ((n.toNat : Nat) : Int)) (by omega) ?_
          refine lv_iload_n hx hb dX7_squares_36 rfl (lv_at hl 2 rfl) ?_
          refine vp_callSi (va_runS (As := [.int (zI (((n.toNat : Nat) : Int))), .int (zI (1))]) (rest := []) ⟨hx, hb, hml, hown, hts⟩ (c_X7_ways_0 l n.toNat (by omega)) (va_cwS 2 hts gX7_squares_X7_ways rfl rfl rfl (by decide +kernel) ⟨Nat.le_of_ble_eq_true rfl, Nat.le_of_ble_eq_true rfl⟩) ⟨fun a U g mk q => q, fun U hU hW => ⟨rfl, trivial⟩⟩ rfl rfl hl.1 rfl (lv_room (Nat.le_of_ble_eq_true rfl)) dX7_squares_37 ⟨Nat.le_of_ble_eq_true rfl, Nat.le_of_ble_eq_true rfl⟩).run (fun r hr37 => ?_)
          obtain rfl := hr37
          refine lv_goto (tgt := 44) hx hb dX7_squares_40 (by decide) ?_
          exact W.iret (v := (zI (((wy 0 (n.toNat) (sqN (n.toNat)) : Nat) : Int)))) hx hb hr (fun tq ht hW => ⟨_, rfl, by rw [sp_squares, if_pos ⟨by omega, by rw [if_neg (by omega)]; omega⟩]; rfl, ht⟩) (fun q h => by cases h) dX7_squares_44
        · refine lv_iload_n hx hb dX7_squares_35 rfl (lv_at hl 1 rfl) ?_
          refine z_re (e2 := ((n.toNat : Nat) : Int)) (by omega) ?_
          refine lv_iload_n hx hb dX7_squares_36 rfl (lv_at hl 2 rfl) ?_
          refine vp_callSi (va_runS (As := [.int (zI (((n.toNat : Nat) : Int))), .int (zI (2))]) (rest := []) ⟨hx, hb, hml, hown, hts⟩ (c_X7_ways_1 l n.toNat (by omega)) (va_cwS 2 hts gX7_squares_X7_ways rfl rfl rfl (by decide +kernel) ⟨Nat.le_of_ble_eq_true rfl, Nat.le_of_ble_eq_true rfl⟩) ⟨fun a U g mk q => q, fun U hU hW => ⟨rfl, trivial⟩⟩ rfl rfl hl.1 rfl (lv_room (Nat.le_of_ble_eq_true rfl)) dX7_squares_37 ⟨Nat.le_of_ble_eq_true rfl, Nat.le_of_ble_eq_true rfl⟩).run (fun r hr37 => ?_)
          obtain rfl := hr37
          refine lv_goto (tgt := 44) hx hb dX7_squares_40 (by decide) ?_
          exact W.iret (v := (zI (((wy 1 (n.toNat) (sqN (n.toNat)) : Nat) : Int)))) hx hb hr (fun tq ht hW => ⟨_, rfl, by rw [sp_squares, if_pos ⟨by omega, by rw [if_neg (by omega)]; omega⟩]; rfl, ht⟩) (fun q h => by cases h) dX7_squares_44
        · refine lv_iload_n hx hb dX7_squares_35 rfl (lv_at hl 1 rfl) ?_
          refine z_re (e2 := ((n.toNat : Nat) : Int)) (by omega) ?_
          refine lv_iload_n hx hb dX7_squares_36 rfl (lv_at hl 2 rfl) ?_
          refine vp_callSi (va_runS (As := [.int (zI (((n.toNat : Nat) : Int))), .int (zI (3))]) (rest := []) ⟨hx, hb, hml, hown, hts⟩ (c_X7_ways_2 l n.toNat (by omega)) (va_cwS 2 hts gX7_squares_X7_ways rfl rfl rfl (by decide +kernel) ⟨Nat.le_of_ble_eq_true rfl, Nat.le_of_ble_eq_true rfl⟩) ⟨fun a U g mk q => q, fun U hU hW => ⟨rfl, trivial⟩⟩ rfl rfl hl.1 rfl (lv_room (Nat.le_of_ble_eq_true rfl)) dX7_squares_37 ⟨Nat.le_of_ble_eq_true rfl, Nat.le_of_ble_eq_true rfl⟩).run (fun r hr37 => ?_)
          obtain rfl := hr37
          refine lv_goto (tgt := 44) hx hb dX7_squares_40 (by decide) ?_
          exact W.iret (v := (zI (((wy 2 (n.toNat) (sqN (n.toNat)) : Nat) : Int)))) hx hb hr (fun tq ht hW => ⟨_, rfl, by rw [sp_squares, if_pos ⟨by omega, by rw [if_neg (by omega)]; omega⟩]; rfl, ht⟩) (fun q h => by cases h) dX7_squares_44
        · refine lv_iload_n hx hb dX7_squares_35 rfl (lv_at hl 1 rfl) ?_
          refine z_re (e2 := ((n.toNat : Nat) : Int)) (by omega) ?_
          refine lv_iload_n hx hb dX7_squares_36 rfl (lv_at hl 2 rfl) ?_
          refine vp_callSi (va_runS (As := [.int (zI (((n.toNat : Nat) : Int))), .int (zI (4))]) (rest := []) ⟨hx, hb, hml, hown, hts⟩ (c_X7_ways_3 l n.toNat (by omega)) (va_cwS 2 hts gX7_squares_X7_ways rfl rfl rfl (by decide +kernel) ⟨Nat.le_of_ble_eq_true rfl, Nat.le_of_ble_eq_true rfl⟩) ⟨fun a U g mk q => q, fun U hU hW => ⟨rfl, trivial⟩⟩ rfl rfl hl.1 rfl (lv_room (Nat.le_of_ble_eq_true rfl)) dX7_squares_37 ⟨Nat.le_of_ble_eq_true rfl, Nat.le_of_ble_eq_true rfl⟩).run (fun r hr37 => ?_)
          obtain rfl := hr37
          refine lv_goto (tgt := 44) hx hb dX7_squares_40 (by decide) ?_
          exact W.iret (v := (zI (((wy 3 (n.toNat) (sqN (n.toNat)) : Nat) : Int)))) hx hb hr (fun tq ht hW => ⟨_, rfl, by rw [sp_squares, if_pos ⟨by omega, by rw [if_neg (by omega)]; omega⟩]; rfl, ht⟩) (fun q h => by cases h) dX7_squares_44

-- the check: turns
set_option maxHeartbeats 4000000 in
set_option maxRecDepth 100000 in
theorem c_X7_turns (l : Launch) (D : va_G) (t : Nat → ClassId) (sz : Nat) (y : Nat) (b : Nat → Nat) (R : Nat) (fm0 kn pm0 lm : Int) (fd0 : Nat → Nat) (n x : Nat) (gn : n ≤ 32) (gx : x < 2 ^ n) : Met l yX7_turns wsX7_turns ({ frames := 2, cells := 0, slots := 0, locals := 50 }) (va_Pc [.ref y, .int (zI (n)), .long (lN (x))] (fun U => U.heap.size = sz ∧ va_P D vwCl ([oM y b (((R : Nat) : Int)) (fm0) (kn) (pm0) (lm), aJ t (b 5) 16 (fd0)]) U.heap ∧ va_K D vwCl (TY t) U ∧ va_D (fun _ => True) ([oM y b (((R : Nat) : Int)) (fm0) (kn) (pm0) (lm), aJ t (b 5) 16 (fd0)]))) (va_Ql (fun r (u : Nat × (Nat → Nat)) => r = lN (ltw n x 8) ∧ u.1 = cntw n x 8) (fun (u : Nat × (Nat → Nat)) t1 => va_P D vwCl ([oM y b (((R : Nat) : Int)) (((u.1 : Nat) : Int)) (kn) (pm0) (lm), aJ t (b 5) 16 (u.2)]) t1.heap ∧ va_K D vwCl (TY t) t1 ∧ va_D (va_A ([oM y b (((R : Nat) : Int)) (fm0) (kn) (pm0) (lm), aJ t (b 5) 16 (fd0)]) sz) ([oM y b (((R : Nat) : Int)) (((u.1 : Nat) : Int)) (kn) (pm0) (lm), aJ t (b 5) 16 (u.2)])) (va_A ([oM y b (((R : Nat) : Int)) (fm0) (kn) (pm0) (lm), aJ t (b 5) 16 (fd0)]) sz)) 0 0 (va_A ([oM y b (((R : Nat) : Int)) (fm0) (kn) (pm0) (lm), aJ t (b 5) 16 (fd0)]) sz) := by
  refine Met.ofW (cc := cX7_turns) (maxL := 12) (ret := (some .long)) (by decide) rfl ?_
  intro p e s m args below meth c s₁ B hml hv
  obtain ⟨rfl, hsz, hP, hK, hD0⟩ := hv
  have hx := B.exec
  have hb := B.bytes
  have hr := B.returns
  have hts := atoms_spec (ws := wsX7_turns) B.pre
  have hown : s.vm.findClass RX7 = some m.cls := findClass_of_methodNamed B.named
  have hlocks := B.notSynchronized
  subst hsz
  have hD := hD0.self (sz := s.heap.size)
  generalize hAe : va_A ([oM y b (((R : Nat) : Int)) (fm0) (kn) (pm0) (lm), aJ t (b 5) 16 (fd0)]) s.heap.size = AA at hD ⊢
  have hA : ∀ q : Nat, s.heap.size ≤ q → AA q := fun q h => by rw [← hAe]; exact Or.inr h
  have hS : va_S AA s.heap s.heap [] := va_S.rf
  have hP : va_P D vwCl ([oM y b (((R : Nat) : Int)) (fm0) (kn) (pm0) (lm), aJ t (b 5) 16 (fd0)]) s.heap := hP
  have hl := lv_entry ([.ref y, .int (zI (n)), .long (lN (x))]) (n := 12) (Nat.le_of_ble_eq_true rfl)
  rw [lg_entry_eq]
  generalize (lg_sl ([.ref y, .int (zI (n)), .long (lN (x))]) ++ List.replicate (12 - (lg_sl ([.ref y, .int (zI (n)), .long (lN (x))])).length) Slot.unset).toArray = ls at hl ⊢
  have hl : lv_has ls 12 [(0, .ref y), (1, .int (zI (n))), (2, .long (lN (x)))] := hl
  have iX7 : ∀ w ∈ u_ws RX7 TX7 16, w ∈ wsX7_turns := by decide +kernel
  have gx2 := lt32 gx gn
  refine lv_aload_n hx hb dX7_turns_0 rfl (lv_at hl 0 rfl) ?_
  refine va_get (D := D) (ci := 6) (v := .ref (b 5)) (C := RX7) (T := TX7) (N := 16) hx hb hts iX7 hown hK hP 0 rfl rfl 6 (by decide) (hts (.fieldLink RX7 26 "CancelRowsModel" "found" "[J") (by decide +kernel)) (fun _ h9 => h9) rfl dX7_turns_1 ?_
  refine lv_iconst (v := zI 0) hx hb dX7_turns_4 rfl ?_
  refine z_re (e2 := ((0 : Nat) : Int)) (rfl) ?_
  refine lv_lload_n hx hb dX7_turns_5 rfl (lv_at hl 2 rfl) ?_
  refine l_last hx hb hK hP hD hS 1 1 rfl rfl (0) (by omega) (by omega) (by omega) dX7_turns_6 (fun H locs hP hD hS => ?_)
  have hP : va_P D vwCl [oM y b (((R : Nat) : Int)) (fm0) (kn) (pm0) (lm), aJ t (b 5) 16 (va_up (fd0) (0) (x))] H := hP
  have hD : va_D AA [oM y b (((R : Nat) : Int)) (fm0) (kn) (pm0) (lm), aJ t (b 5) 16 (va_up (fd0) (0) (x))] := hD
  refine lv_aload_n hx hb dX7_turns_7 rfl (lv_at hl 0 rfl) ?_
  refine lv_iconst (v := zI 1) hx hb dX7_turns_8 rfl ?_
  refine va_put (D := D) (ci := 6) (v := .int (zI (1))) (ty := .int) (C := RX7) (T := TX7) (N := 16) hx hb hts iX7 tyX7 tyX7_ok nmX7 hown hK hP hD hS 0 rfl rfl 7 (by decide) (hts (.fieldLink RX7 83 "CancelRowsModel" "foundMany" "I") (by decide +kernel)) (fun _ h9 => h9) rfl (by decide +kernel) rfl rfl (Nat.le_of_ble_eq_true rfl) dX7_turns_9 (fun H locs hP hD hS => ?_)
  have hP : va_P D vwCl [oM y b (((R : Nat) : Int)) (1) (kn) (pm0) (lm), aJ t (b 5) 16 (va_up (fd0) (0) (x))] H := hP
  have hD : va_D AA [oM y b (((R : Nat) : Int)) (1) (kn) (pm0) (lm), aJ t (b 5) 16 (va_up (fd0) (0) (x))] := hD
  refine lv_lload_n hx hb dX7_turns_12 rfl (lv_at hl 2 rfl) ?_
  refine lv_lstore (lv' := [(4, .long (lN (x))), (0, .ref y), (1, .int (zI (n))), (2, .long (lN (x)))]) hx hb dX7_turns_13 hl (by decide) rfl (fun ls hl => ?_)
  refine lv_iconst (v := zI 0) hx hb dX7_turns_15 rfl ?_
  refine z_re (e2 := ((0 : Nat) : Int)) (rfl) ?_
  refine lv_istore (lv' := [(6, .int (zI (((0 : Nat) : Int)))), (4, .long (lN (x))), (0, .ref y), (1, .int (zI (n))), (2, .long (lN (x)))]) hx hb dX7_turns_16 hl (by decide) rfl (fun ls hl => ?_)
  have lp18 : ∀ (NN : Nat) (k : Nat) (fm : Nat) (fd : Nat → Nat) (l0 : Nat) (q0 : TI n x fm fd l0) (q1 : ∀ i, i < k → ∀ w, w < 3 → ∃ j, j < fm ∧ fd j = trn n (fd i) w) (q2 : k ≤ fm), 8 - k < NN → ∀ (H : Heap) (locs : List Loc), va_P D vwCl [oM y b (((R : Nat) : Int)) (((fm : Nat) : Int)) (kn) (pm0) (lm), aJ t (b 5) 16 (fd)] H → va_D AA [oM y b (((R : Nat) : Int)) (((fm : Nat) : Int)) (kn) (pm0) (lm), aJ t (b 5) 16 (fd)] → va_S AA s.heap H locs → ∀ (ls : Array Slot), lv_has ls 12 [(0, .ref y), (1, .int (zI (n))), (2, .long (lN (x))), (4, .long (lN (l0))), (6, .int (zI (k)))] → W p l e (headSpec wsX7_turns ({ frames := 2, cells := 0, slots := 0, locals := 50 })).room s m ([.ref y, .int (zI (n)), .long (lN (x))] : List Value).toArray below meth c H locs 0 0 (MQ below (va_Ql (fun r (u : Nat × (Nat → Nat)) => r = lN (ltw n x 8) ∧ u.1 = cntw n x 8) (fun (u : Nat × (Nat → Nat)) t1 => va_P D vwCl ([oM y b (((R : Nat) : Int)) (((u.1 : Nat) : Int)) (kn) (pm0) (lm), aJ t (b 5) 16 (u.2)]) t1.heap ∧ va_K D vwCl (TY t) t1 ∧ va_D (AA) ([oM y b (((R : Nat) : Int)) (((u.1 : Nat) : Int)) (kn) (pm0) (lm), aJ t (b 5) 16 (u.2)])) (AA)) ([.ref y, .int (zI (n)), .long (lN (x))] : List Value).toArray s 0 0 (AA)) (F0 m 18 ls []) := by
    intro NN
    induction NN with
    | zero =>
      intro k fm fd l0 q0 q1 q2 hmu
      exact absurd hmu (Nat.not_lt_zero _)
    | succ NN ih18 =>
      intro k fm fd l0 q0 q1 q2 hmu H locs hP hD hS ls hl
      have b1 := TI_le q0
      have b2 := lt32 (TI_ls q0) gn
      have b0 := q0.1
      refine lv_iload hx hb dX7_turns_18 (lv_at hl 4 rfl) ?_
      refine lv_aload_n hx hb dX7_turns_20 rfl (lv_at hl 0 rfl) ?_
      refine va_get (D := D) (ci := 6) (v := .int (zI (((fm : Nat) : Int)))) (C := RX7) (T := TX7) (N := 16) hx hb hts iX7 hown hK hP 0 rfl rfl 7 (by decide) (hts (.fieldLink RX7 83 "CancelRowsModel" "foundMany" "I") (by decide +kernel)) (fun _ h9 => h9) rfl dX7_turns_21 ?_
      refine z_icmp_ge (tgt := 152) hx hb dX7_turns_24 (by decide) (by omega) (by omega) (fun c24 => ?_) (fun c24 => ?_)
      · refine lv_lload hx hb dX7_turns_152 (lv_at hl 3 rfl) ?_
        exact W.lret (v := (lN (l0))) hx hb hr (fun tq ht hW => ⟨⟨_, (fm, fd), rfl, ⟨by rw [TI_least gx q0 (fun i hi => q1 i (by omega))], TI_count gx q0 (fun i hi => q1 i (by omega))⟩, by rw [ht]; exact hP, va_K.moved hW.alike hK, hD⟩, hS.F ht⟩) hS.2.2 dX7_turns_154
      · refine lv_iconst (v := zI 0) hx hb dX7_turns_27 rfl ?_
        refine z_re (e2 := ((0 : Nat) : Int)) (rfl) ?_
        refine lv_istore (lv' := [(7, .int (zI (((0 : Nat) : Int)))), (0, .ref y), (1, .int (zI (n))), (2, .long (lN (x))), (4, .long (lN (l0))), (6, .int (zI (k)))]) hx hb dX7_turns_28 hl (by decide) rfl (fun ls hl => ?_)
        have lp30 : ∀ (NN : Nat) (w2 : Nat) (fm : Nat) (fd : Nat → Nat) (l0 : Nat) (q0 : TI n x fm fd l0) (q1 : ∀ i, i < k → ∀ w, w < 3 → ∃ j, j < fm ∧ fd j = trn n (fd i) w) (q2 : k < fm) (r1 : ∀ w, w < w2 → ∃ j, j < fm ∧ fd j = trn n (fd k) w) (r2 : w2 ≤ 3), 3 - w2 < NN → ∀ (H : Heap) (locs : List Loc), va_P D vwCl [oM y b (((R : Nat) : Int)) (((fm : Nat) : Int)) (kn) (pm0) (lm), aJ t (b 5) 16 (fd)] H → va_D AA [oM y b (((R : Nat) : Int)) (((fm : Nat) : Int)) (kn) (pm0) (lm), aJ t (b 5) 16 (fd)] → va_S AA s.heap H locs → ∀ (ls : Array Slot), lv_has ls 12 [(0, .ref y), (1, .int (zI (n))), (2, .long (lN (x))), (4, .long (lN (l0))), (6, .int (zI (k))), (7, .int (zI (w2)))] → W p l e (headSpec wsX7_turns ({ frames := 2, cells := 0, slots := 0, locals := 50 })).room s m ([.ref y, .int (zI (n)), .long (lN (x))] : List Value).toArray below meth c H locs 0 0 (MQ below (va_Ql (fun r (u : Nat × (Nat → Nat)) => r = lN (ltw n x 8) ∧ u.1 = cntw n x 8) (fun (u : Nat × (Nat → Nat)) t1 => va_P D vwCl ([oM y b (((R : Nat) : Int)) (((u.1 : Nat) : Int)) (kn) (pm0) (lm), aJ t (b 5) 16 (u.2)]) t1.heap ∧ va_K D vwCl (TY t) t1 ∧ va_D (AA) ([oM y b (((R : Nat) : Int)) (((u.1 : Nat) : Int)) (kn) (pm0) (lm), aJ t (b 5) 16 (u.2)])) (AA)) ([.ref y, .int (zI (n)), .long (lN (x))] : List Value).toArray s 0 0 (AA)) (F0 m 30 ls []) := by
          intro NN
          induction NN with
          | zero =>
            intro w2 fm fd l0 q0 q1 q2 r1 r2 hmu
            exact absurd hmu (Nat.not_lt_zero _)
          | succ NN ih30 =>
            intro w2 fm fd l0 q0 q1 q2 r1 r2 hmu H locs hP hD hS ls hl
            have b1 := TI_le q0
            have b2 := lt32 (TI_ls q0) gn
            have b3 := lt32 (TI_lt q0 q2) gn
            have b4 := lt32 (trn_lt n (fd k) w2) gn
            have b0 := q0.1
            have old : ∀ i, i < fm → va_up fd fm (trn n (fd k) w2) i = fd i := fun i hi => by simp [va_up, show ¬ i = fm by omega]
            have new : va_up fd fm (trn n (fd k) w2) fm = trn n (fd k) w2 := by simp [va_up]
            refine lv_iload hx hb dX7_turns_30 (lv_at hl 5 rfl) ?_
            refine lv_iconst (v := zI 3) hx hb dX7_turns_32 rfl ?_
            refine z_icmp_ge (tgt := 146) hx hb dX7_turns_33 (by decide) (by omega) (by omega) (fun c33 => ?_) (fun c33 => ?_)
            · refine lv_iinc (v := zI (((k + 1 : Nat) : Int))) (lv' := [(6, .int (zI (((k + 1 : Nat) : Int)))), (0, .ref y), (1, .int (zI (n))), (2, .long (lN (x))), (4, .long (lN (l0))), (7, .int (zI (w2)))]) hx hb dX7_turns_146 hl (k := 4) rfl (zI_incr (by omega)) (by decide) rfl (fun ls hl => ?_)
              refine lv_goto (tgt := 18) hx hb dX7_turns_149 (by decide) ?_
              exact ih18 (k + 1) (fm) (fd) (l0) (q0) (fun i hi w hw => (Nat.lt_succ_iff_lt_or_eq.mp hi).elim (fun z => q1 i z w hw) (fun z => by rw [z]; exact r1 w (by omega))) (by omega) (by omega) _ _ hP hD hS _ (lv_sub hl [1, 2, 3, 4, 0] rfl)
            · refine lv_iload_n hx hb dX7_turns_36 rfl (lv_at hl 1 rfl) ?_
              refine lv_aload_n hx hb dX7_turns_37 rfl (lv_at hl 0 rfl) ?_
              refine va_get (D := D) (ci := 6) (v := .ref (b 5)) (C := RX7) (T := TX7) (N := 16) hx hb hts iX7 hown hK hP 0 rfl rfl 6 (by decide) (hts (.fieldLink RX7 26 "CancelRowsModel" "found" "[J") (by decide +kernel)) (fun _ h9 => h9) rfl dX7_turns_38 ?_
              refine lv_iload hx hb dX7_turns_41 (lv_at hl 4 rfl) ?_
              refine l_lald hx hb hK hP 1 1 rfl rfl (k) (by omega) (by omega) (by omega) dX7_turns_43 ?_
              refine lv_iload hx hb dX7_turns_44 (lv_at hl 5 rfl) ?_
              refine vp_callSl (va_runS (As := [.int (zI (n)), .long (lN ((fd) (k))), .int (zI (w2))]) (rest := []) ⟨hx, hb, hml, hown, hts⟩ (c_X7_turned l n (fd k) w2 gn b3 (by omega)) (va_cwS 3 hts gX7_turns_X7_turned rfl rfl rfl (by decide +kernel) ⟨Nat.le_of_ble_eq_true rfl, Nat.le_of_ble_eq_true rfl⟩) ⟨fun a U g mk q => q, fun U hU hW => ⟨rfl, trivial⟩⟩ rfl rfl hl.1 rfl (lv_room (Nat.le_of_ble_eq_true rfl)) dX7_turns_46 ⟨Nat.le_of_ble_eq_true rfl, Nat.le_of_ble_eq_true rfl⟩).run (fun r hr46 => ?_)
              obtain rfl := hr46
              refine lv_lstore (lv' := [(8, .long (lN (trn (n) ((fd) (k)) (w2)))), (0, .ref y), (1, .int (zI (n))), (2, .long (lN (x))), (4, .long (lN (l0))), (6, .int (zI (k))), (7, .int (zI (w2)))]) hx hb dX7_turns_49 hl (by decide) rfl (fun ls hl => ?_)
              refine lv_iconst (v := zI 0) hx hb dX7_turns_51 rfl ?_
              refine z_re (e2 := bP (fnd fd (trn n (fd k) w2) 0 = true)) ((bP_0 (show ¬ fnd fd (trn n (fd k) w2) 0 = true from Bool.false_ne_true)).symm) ?_
              refine lv_istore (lv' := [(10, .int (zI (bP (fnd fd (trn n (fd k) w2) 0 = true)))), (8, .long (lN (trn (n) ((fd) (k)) (w2)))), (0, .ref y), (1, .int (zI (n))), (2, .long (lN (x))), (4, .long (lN (l0))), (6, .int (zI (k))), (7, .int (zI (w2)))]) hx hb dX7_turns_52 hl (by decide) rfl (fun ls hl => ?_)
              refine lv_iconst (v := zI 0) hx hb dX7_turns_54 rfl ?_
              refine z_re (e2 := ((0 : Nat) : Int)) (rfl) ?_
              refine lv_istore (lv' := [(11, .int (zI (((0 : Nat) : Int)))), (10, .int (zI (bP (fnd fd (trn n (fd k) w2) 0 = true)))), (8, .long (lN (trn (n) ((fd) (k)) (w2)))), (0, .ref y), (1, .int (zI (n))), (2, .long (lN (x))), (4, .long (lN (l0))), (6, .int (zI (k))), (7, .int (zI (w2)))]) hx hb dX7_turns_55 hl (by decide) rfl (fun ls hl => ?_)
              have lp57 : ∀ (NN : Nat) (j : Nat) (s1 : j ≤ fm), fm - j < NN → ∀ (H : Heap) (locs : List Loc), va_P D vwCl [oM y b (((R : Nat) : Int)) (((fm : Nat) : Int)) (kn) (pm0) (lm), aJ t (b 5) 16 (fd)] H → va_D AA [oM y b (((R : Nat) : Int)) (((fm : Nat) : Int)) (kn) (pm0) (lm), aJ t (b 5) 16 (fd)] → va_S AA s.heap H locs → ∀ (ls : Array Slot), lv_has ls 12 [(0, .ref y), (1, .int (zI (n))), (2, .long (lN (x))), (4, .long (lN (l0))), (6, .int (zI (k))), (7, .int (zI (w2))), (8, .long (lN (trn n (fd k) w2))), (10, .int (zI (bP (fnd fd (trn n (fd k) w2) j = true)))), (11, .int (zI (j)))] → W p l e (headSpec wsX7_turns ({ frames := 2, cells := 0, slots := 0, locals := 50 })).room s m ([.ref y, .int (zI (n)), .long (lN (x))] : List Value).toArray below meth c H locs 0 0 (MQ below (va_Ql (fun r (u : Nat × (Nat → Nat)) => r = lN (ltw n x 8) ∧ u.1 = cntw n x 8) (fun (u : Nat × (Nat → Nat)) t1 => va_P D vwCl ([oM y b (((R : Nat) : Int)) (((u.1 : Nat) : Int)) (kn) (pm0) (lm), aJ t (b 5) 16 (u.2)]) t1.heap ∧ va_K D vwCl (TY t) t1 ∧ va_D (AA) ([oM y b (((R : Nat) : Int)) (((u.1 : Nat) : Int)) (kn) (pm0) (lm), aJ t (b 5) 16 (u.2)])) (AA)) ([.ref y, .int (zI (n)), .long (lN (x))] : List Value).toArray s 0 0 (AA)) (F0 m 57 ls []) := by
                intro NN
                induction NN with
                | zero =>
                  intro j s1 hmu
                  exact absurd hmu (Nat.not_lt_zero _)
                | succ NN ih57 =>
                  intro j s1 hmu H locs hP hD hS ls hl
                  refine lv_iload hx hb dX7_turns_57 (lv_at hl 8 rfl) ?_
                  refine lv_aload_n hx hb dX7_turns_59 rfl (lv_at hl 0 rfl) ?_
                  refine va_get (D := D) (ci := 6) (v := .int (zI (((fm : Nat) : Int)))) (C := RX7) (T := TX7) (N := 16) hx hb hts iX7 hown hK hP 0 rfl rfl 7 (by decide) (hts (.fieldLink RX7 83 "CancelRowsModel" "foundMany" "I") (by decide +kernel)) (fun _ h9 => h9) rfl dX7_turns_60 ?_
                  refine z_icmp_ge (tgt := 97) hx hb dX7_turns_63 (by decide) (by omega) (by omega) (fun c63 => ?_) (fun c63 => ?_)
                  · refine lv_iload hx hb dX7_turns_97 (lv_at hl 7 rfl) ?_
                    refine z_ifb_ne (P := fnd fd (trn n (fd k) w2) j = true) (tgt := 140) hx hb dX7_turns_99 (by decide) (fun c99 => ?_) (fun c99 => ?_)
                    · have hfn : fnd fd (trn n (fd k) w2) fm = true := by rw [show fm = j by omega]; exact c99
                      refine lv_iinc (v := zI (((w2 + 1 : Nat) : Int))) (lv' := [(7, .int (zI (((w2 + 1 : Nat) : Int)))), (0, .ref y), (1, .int (zI (n))), (2, .long (lN (x))), (4, .long (lN (l0))), (6, .int (zI (k))), (8, .long (lN (trn n (fd k) w2))), (10, .int (zI (bP (fnd fd (trn n (fd k) w2) j = true)))), (11, .int (zI (j)))]) hx hb dX7_turns_140 hl (k := 5) rfl (zI_incr (by omega)) (by decide) rfl (fun ls hl => ?_)
                      refine lv_goto (tgt := 30) hx hb dX7_turns_143 (by decide) ?_
                      exact ih30 (w2 + 1) (fm) (fd) (l0) (q0) (q1) (by omega) (fun w hw => (Nat.lt_succ_iff_lt_or_eq.mp hw).elim (r1 w) (fun z => by rw [z]; exact fnd_iff.mp hfn)) (by omega) (by omega) _ _ hP hD hS _ (lv_sub hl [1, 2, 3, 4, 5, 0] rfl)
                    · have hfn : ¬ fnd fd (trn n (fd k) w2) fm = true := by rw [show fm = j by omega]; exact c99
                      have hle := TI_le (TI_add q0 q2 (by omega) rfl (fun i hi e => hfn (fnd_iff.mpr ⟨i, by omega, e⟩)))
                      refine lv_aload_n hx hb dX7_turns_102 rfl (lv_at hl 0 rfl) ?_
                      refine va_get (D := D) (ci := 6) (v := .ref (b 5)) (C := RX7) (T := TX7) (N := 16) hx hb hts iX7 hown hK hP 0 rfl rfl 6 (by decide) (hts (.fieldLink RX7 26 "CancelRowsModel" "found" "[J") (by decide +kernel)) (fun _ h9 => h9) rfl dX7_turns_103 ?_
                      refine lv_aload_n hx hb dX7_turns_106 rfl (lv_at hl 0 rfl) ?_
                      refine va_get (D := D) (ci := 6) (v := .int (zI (((fm : Nat) : Int)))) (C := RX7) (T := TX7) (N := 16) hx hb hts iX7 hown hK hP 0 rfl rfl 7 (by decide) (hts (.fieldLink RX7 83 "CancelRowsModel" "foundMany" "I") (by decide +kernel)) (fun _ h9 => h9) rfl dX7_turns_107 ?_
                      refine lv_lload hx hb dX7_turns_110 (lv_at hl 6 rfl) ?_
                      refine l_last hx hb hK hP hD hS 1 1 rfl rfl (fm) (by omega) (by omega) (by omega) dX7_turns_112 (fun H locs hP hD hS => ?_)
                      have hP : va_P D vwCl [oM y b (((R : Nat) : Int)) (((fm : Nat) : Int)) (kn) (pm0) (lm), aJ t (b 5) 16 (va_up (fd) (fm) (trn n (fd k) w2))] H := hP
                      have hD : va_D AA [oM y b (((R : Nat) : Int)) (((fm : Nat) : Int)) (kn) (pm0) (lm), aJ t (b 5) 16 (va_up (fd) (fm) (trn n (fd k) w2))] := hD
                      refine lv_aload_n hx hb dX7_turns_113 rfl (lv_at hl 0 rfl) ?_
                      refine lv_dup hx hb dX7_turns_114 rfl ?_
                      refine va_get (D := D) (ci := 6) (v := .int (zI (((fm : Nat) : Int)))) (C := RX7) (T := TX7) (N := 16) hx hb hts iX7 hown hK hP 0 rfl rfl 7 (by decide) (hts (.fieldLink RX7 83 "CancelRowsModel" "foundMany" "I") (by decide +kernel)) (fun _ h9 => h9) rfl dX7_turns_115 ?_
                      refine lv_iconst (v := zI 1) hx hb dX7_turns_118 rfl ?_
                      refine z_iadd hx hb dX7_turns_119 ?_
                      refine z_re (e2 := ((fm + 1 : Nat) : Int)) (by omega) ?_
                      refine va_put (D := D) (ci := 6) (v := .int (zI (((fm + 1 : Nat) : Int)))) (ty := .int) (C := RX7) (T := TX7) (N := 16) hx hb hts iX7 tyX7 tyX7_ok nmX7 hown hK hP hD hS 0 rfl rfl 7 (by decide) (hts (.fieldLink RX7 83 "CancelRowsModel" "foundMany" "I") (by decide +kernel)) (fun _ h9 => h9) rfl (by decide +kernel) rfl rfl (Nat.le_of_ble_eq_true rfl) dX7_turns_120 (fun H locs hP hD hS => ?_)
                      have hP : va_P D vwCl [oM y b (((R : Nat) : Int)) (((fm + 1 : Nat) : Int)) (kn) (pm0) (lm), aJ t (b 5) 16 (va_up (fd) (fm) (trn n (fd k) w2))] H := hP
                      have hD : va_D AA [oM y b (((R : Nat) : Int)) (((fm + 1 : Nat) : Int)) (kn) (pm0) (lm), aJ t (b 5) 16 (va_up (fd) (fm) (trn n (fd k) w2))] := hD
                      refine lv_lload hx hb dX7_turns_123 (lv_at hl 6 rfl) ?_
                      refine lv_lload hx hb dX7_turns_125 (lv_at hl 3 rfl) ?_
                      refine z_lcmp_ge (a := ((trn n (fd k) w2 : Nat) : Int)) (b := ((l0 : Nat) : Int)) (tgt := 136) hx hb dX7_turns_127 dX7_turns_128 (by decide) (lN_toI (n := trn n (fd k) w2) (by omega)) (lN_toI (n := l0) (by omega)) (fun c127 => ?_) (fun c127 => ?_)
                      · refine lv_lload hx hb dX7_turns_136 (lv_at hl 3 rfl) ?_
                        refine n_re (e2 := min (trn n (fd k) w2) l0) (by omega) ?_
                        refine lv_lstore (lv' := [(4, .long (lN (min (trn n (fd k) w2) l0))), (0, .ref y), (1, .int (zI (n))), (2, .long (lN (x))), (6, .int (zI (k))), (7, .int (zI (w2))), (8, .long (lN (trn n (fd k) w2))), (10, .int (zI (bP (fnd fd (trn n (fd k) w2) j = true)))), (11, .int (zI (j)))]) hx hb dX7_turns_138 hl (by decide) rfl (fun ls hl => ?_)
                        refine lv_iinc (v := zI (((w2 + 1 : Nat) : Int))) (lv' := [(7, .int (zI (((w2 + 1 : Nat) : Int)))), (4, .long (lN (min (trn n (fd k) w2) l0))), (0, .ref y), (1, .int (zI (n))), (2, .long (lN (x))), (6, .int (zI (k))), (8, .long (lN (trn n (fd k) w2))), (10, .int (zI (bP (fnd fd (trn n (fd k) w2) j = true)))), (11, .int (zI (j)))]) hx hb dX7_turns_140 hl (k := 5) rfl (zI_incr (by omega)) (by decide) rfl (fun ls hl => ?_)
                        refine lv_goto (tgt := 30) hx hb dX7_turns_143 (by decide) ?_
                        exact ih30 (w2 + 1) (fm + 1) (va_up fd fm (trn n (fd k) w2)) (min (trn n (fd k) w2) l0) (TI_add q0 q2 (by omega) rfl (fun i hi e => hfn (fnd_iff.mpr ⟨i, by omega, e⟩))) (fun i hi w hw => by rw [old i (by omega)]; exact cl_add (q1 i hi w hw) _) (by omega) (fun w hw => by rw [old k q2]; exact (Nat.lt_succ_iff_lt_or_eq.mp hw).elim (fun z => cl_add (r1 w z) _) (fun z => ⟨fm, by omega, by rw [z]; exact new⟩)) (by omega) (by omega) _ _ hP hD hS _ (lv_sub hl [2, 3, 4, 1, 5, 0] rfl)
                      · refine lv_lload hx hb dX7_turns_131 (lv_at hl 6 rfl) ?_
                        refine n_re (e2 := min (trn n (fd k) w2) l0) (by omega) ?_
                        refine lv_goto (tgt := 138) hx hb dX7_turns_133 (by decide) ?_
                        refine lv_lstore (lv' := [(4, .long (lN (min (trn n (fd k) w2) l0))), (0, .ref y), (1, .int (zI (n))), (2, .long (lN (x))), (6, .int (zI (k))), (7, .int (zI (w2))), (8, .long (lN (trn n (fd k) w2))), (10, .int (zI (bP (fnd fd (trn n (fd k) w2) j = true)))), (11, .int (zI (j)))]) hx hb dX7_turns_138 hl (by decide) rfl (fun ls hl => ?_)
                        refine lv_iinc (v := zI (((w2 + 1 : Nat) : Int))) (lv' := [(7, .int (zI (((w2 + 1 : Nat) : Int)))), (4, .long (lN (min (trn n (fd k) w2) l0))), (0, .ref y), (1, .int (zI (n))), (2, .long (lN (x))), (6, .int (zI (k))), (8, .long (lN (trn n (fd k) w2))), (10, .int (zI (bP (fnd fd (trn n (fd k) w2) j = true)))), (11, .int (zI (j)))]) hx hb dX7_turns_140 hl (k := 5) rfl (zI_incr (by omega)) (by decide) rfl (fun ls hl => ?_)
                        refine lv_goto (tgt := 30) hx hb dX7_turns_143 (by decide) ?_
                        exact ih30 (w2 + 1) (fm + 1) (va_up fd fm (trn n (fd k) w2)) (min (trn n (fd k) w2) l0) (TI_add q0 q2 (by omega) rfl (fun i hi e => hfn (fnd_iff.mpr ⟨i, by omega, e⟩))) (fun i hi w hw => by rw [old i (by omega)]; exact cl_add (q1 i hi w hw) _) (by omega) (fun w hw => by rw [old k q2]; exact (Nat.lt_succ_iff_lt_or_eq.mp hw).elim (fun z => cl_add (r1 w z) _) (fun z => ⟨fm, by omega, by rw [z]; exact new⟩)) (by omega) (by omega) _ _ hP hD hS _ (lv_sub hl [2, 3, 4, 1, 5, 0] rfl)
                  · refine lv_iload hx hb dX7_turns_66 (lv_at hl 7 rfl) ?_
                    refine z_ifb_ne (P := fnd fd (trn n (fd k) w2) j = true) (tgt := 84) hx hb dX7_turns_68 (by decide) (fun c68 => ?_) (fun c68 => ?_)
                    · refine lv_iconst (v := zI 1) hx hb dX7_turns_84 rfl ?_
                      refine z_re (e2 := bP (fnd fd (trn n (fd k) w2) (j + 1) = true)) ((bP_1 (fnd_iff.mpr (by obtain ⟨i, h1, h2⟩ := fnd_iff.mp c68; exact ⟨i, by omega, h2⟩))).symm) ?_
                      refine lv_goto (tgt := 89) hx hb dX7_turns_85 (by decide) ?_
                      refine lv_istore (lv' := [(10, .int (zI (bP (fnd fd (trn n (fd k) w2) (j + 1) = true)))), (0, .ref y), (1, .int (zI (n))), (2, .long (lN (x))), (4, .long (lN (l0))), (6, .int (zI (k))), (7, .int (zI (w2))), (8, .long (lN (trn n (fd k) w2))), (11, .int (zI (j)))]) hx hb dX7_turns_89 hl (by decide) rfl (fun ls hl => ?_)
                      refine lv_iinc (v := zI (((j + 1 : Nat) : Int))) (lv' := [(11, .int (zI (((j + 1 : Nat) : Int)))), (10, .int (zI (bP (fnd fd (trn n (fd k) w2) (j + 1) = true)))), (0, .ref y), (1, .int (zI (n))), (2, .long (lN (x))), (4, .long (lN (l0))), (6, .int (zI (k))), (7, .int (zI (w2))), (8, .long (lN (trn n (fd k) w2)))]) hx hb dX7_turns_91 hl (k := 8) rfl (zI_incr (by omega)) (by decide) rfl (fun ls hl => ?_)
                      refine lv_goto (tgt := 57) hx hb dX7_turns_94 (by decide) ?_
                      exact ih57 (j + 1) (by omega) (by omega) _ _ hP hD hS _ (lv_sub hl [2, 3, 4, 5, 6, 7, 8, 1, 0] rfl)
                    · refine lv_aload_n hx hb dX7_turns_71 rfl (lv_at hl 0 rfl) ?_
                      refine va_get (D := D) (ci := 6) (v := .ref (b 5)) (C := RX7) (T := TX7) (N := 16) hx hb hts iX7 hown hK hP 0 rfl rfl 6 (by decide) (hts (.fieldLink RX7 26 "CancelRowsModel" "found" "[J") (by decide +kernel)) (fun _ h9 => h9) rfl dX7_turns_72 ?_
                      refine lv_iload hx hb dX7_turns_75 (lv_at hl 8 rfl) ?_
                      have b5 := lt32 (TI_lt q0 (show j < fm by omega)) gn
                      refine l_lald hx hb hK hP 1 1 rfl rfl (j) (by omega) (by omega) (by omega) dX7_turns_77 ?_
                      refine lv_lload hx hb dX7_turns_78 (lv_at hl 6 rfl) ?_
                      refine z_lcmp_ne (a := (((fd) (j) : Nat) : Int)) (b := ((trn n (fd k) w2 : Nat) : Int)) (tgt := 88) hx hb dX7_turns_80 dX7_turns_81 (by decide) (lN_toI (n := (fd) (j)) (by omega)) (lN_toI (n := trn n (fd k) w2) (by omega)) (fun c80 => ?_) (fun c80 => ?_)
                      · refine lv_iconst (v := zI 0) hx hb dX7_turns_88 rfl ?_
                        refine z_re (e2 := bP (fnd fd (trn n (fd k) w2) (j + 1) = true)) ((bP_0 (fun z => by obtain ⟨i, h1, h2⟩ := fnd_iff.mp z; exact (Nat.lt_succ_iff_lt_or_eq.mp h1).elim (fun y => c68 (fnd_iff.mpr ⟨i, y, h2⟩)) (fun y => c80 (by rw [← h2, y])))).symm) ?_
                        refine lv_istore (lv' := [(10, .int (zI (bP (fnd fd (trn n (fd k) w2) (j + 1) = true)))), (0, .ref y), (1, .int (zI (n))), (2, .long (lN (x))), (4, .long (lN (l0))), (6, .int (zI (k))), (7, .int (zI (w2))), (8, .long (lN (trn n (fd k) w2))), (11, .int (zI (j)))]) hx hb dX7_turns_89 hl (by decide) rfl (fun ls hl => ?_)
                        refine lv_iinc (v := zI (((j + 1 : Nat) : Int))) (lv' := [(11, .int (zI (((j + 1 : Nat) : Int)))), (10, .int (zI (bP (fnd fd (trn n (fd k) w2) (j + 1) = true)))), (0, .ref y), (1, .int (zI (n))), (2, .long (lN (x))), (4, .long (lN (l0))), (6, .int (zI (k))), (7, .int (zI (w2))), (8, .long (lN (trn n (fd k) w2)))]) hx hb dX7_turns_91 hl (k := 8) rfl (zI_incr (by omega)) (by decide) rfl (fun ls hl => ?_)
                        refine lv_goto (tgt := 57) hx hb dX7_turns_94 (by decide) ?_
                        exact ih57 (j + 1) (by omega) (by omega) _ _ hP hD hS _ (lv_sub hl [2, 3, 4, 5, 6, 7, 8, 1, 0] rfl)
                      · refine lv_iconst (v := zI 1) hx hb dX7_turns_84 rfl ?_
                        refine z_re (e2 := bP (fnd fd (trn n (fd k) w2) (j + 1) = true)) ((bP_1 (fnd_iff.mpr ⟨j, by omega, Int.ofNat.inj c80⟩)).symm) ?_
                        refine lv_goto (tgt := 89) hx hb dX7_turns_85 (by decide) ?_
                        refine lv_istore (lv' := [(10, .int (zI (bP (fnd fd (trn n (fd k) w2) (j + 1) = true)))), (0, .ref y), (1, .int (zI (n))), (2, .long (lN (x))), (4, .long (lN (l0))), (6, .int (zI (k))), (7, .int (zI (w2))), (8, .long (lN (trn n (fd k) w2))), (11, .int (zI (j)))]) hx hb dX7_turns_89 hl (by decide) rfl (fun ls hl => ?_)
                        refine lv_iinc (v := zI (((j + 1 : Nat) : Int))) (lv' := [(11, .int (zI (((j + 1 : Nat) : Int)))), (10, .int (zI (bP (fnd fd (trn n (fd k) w2) (j + 1) = true)))), (0, .ref y), (1, .int (zI (n))), (2, .long (lN (x))), (4, .long (lN (l0))), (6, .int (zI (k))), (7, .int (zI (w2))), (8, .long (lN (trn n (fd k) w2)))]) hx hb dX7_turns_91 hl (k := 8) rfl (zI_incr (by omega)) (by decide) rfl (fun ls hl => ?_)
                        refine lv_goto (tgt := 57) hx hb dX7_turns_94 (by decide) ?_
                        exact ih57 (j + 1) (by omega) (by omega) _ _ hP hD hS _ (lv_sub hl [2, 3, 4, 5, 6, 7, 8, 1, 0] rfl)
              exact lp57 _ (0) (by omega) (Nat.lt_succ_self _) _ _ hP hD hS _ (lv_sub hl [3, 4, 5, 6, 7, 8, 2, 1, 0] rfl)
        exact lp30 _ (0) (fm) (fd) (l0) (q0) (q1) (by omega) (fun w hw => absurd hw (Nat.not_lt_zero w)) (by omega) (Nat.lt_succ_self _) _ _ hP hD hS _ (lv_sub hl [1, 2, 3, 4, 5, 0] rfl)
  exact lp18 _ (0) (1) (va_up fd0 0 x) (x) (TI_0 gx fd0) (fun i hi => absurd hi (Nat.not_lt_zero i)) (by omega) (Nat.lt_succ_self _) _ _ hP hD hS _ (lv_sub hl [2, 3, 4, 1, 0] rfl)
