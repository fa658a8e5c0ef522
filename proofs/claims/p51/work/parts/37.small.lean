theorem X_at {s : State} {A : Nat → Prop} {b L : Nat} {xs : Nat → Int32} {H0 H : Heap} {locs : List Loc} (hX : va_X b L xs s H0) (hbl : b < H0.size) (hbA : ¬ A b) (hS : va_S A H0 H locs) : va_X b L xs s H := by
  obtain ⟨scr, h1, h2⟩ := hX
  exact ⟨scr, by rw [hS.2.1 b hbl hbA]; exact h1, h2⟩
theorem X_warm {s U : State} {H : Heap} {b L : Nat} {xs : Nat → Int32} (hW : s.WarmedH U.vm) (hX : va_X b L xs s H) : va_X b L xs U H := by
  obtain ⟨scr, h1, h2, h3⟩ := hX
  exact ⟨scr, h1, State.isArrayOf_alike hW.alike h2, h3⟩
abbrev XPp (b L : Nat) (xs : Nat → Int32) (U : State) : Prop := va_X b L xs U U.heap ∧ b < U.heap.size
theorem ps_x {s : State} {H : Heap} {b L : Nat} {xs : Nat → Int32} {As : List Value} (hX : va_X b L xs s H) (hbl : b < H.size) : PreS s H (va_Pc As (XPp b L xs)) As :=
  ⟨fun A U g mk q => ⟨q.1, X_warm (s := U) (State.WarmedH.refl U) q.2.1, q.2.2⟩, fun U hU hW => ⟨rfl, by rw [hU]; exact X_warm hW hX, by rw [hU]; exact hbl⟩⟩
theorem ps_0 {s : State} {H : Heap} {As : List Value} : PreS s H (va_Pc As (fun _ => True)) As :=
  ⟨fun A U g mk q => ⟨q.1, trivial⟩, fun U hU hW => ⟨rfl, trivial⟩⟩

set_option maxRecDepth 100000 in
set_option maxHeartbeats 4000000 in
theorem cl_L_at (l : Launch) (b L : Nat) (xs : Nat → Int32) (k : Nat) (hL : L ≤ 260) (hk : k ≤ 300) : Met l yL_at (wA yL_at cL_at 2 (some .int)) ({ frames := 0, cells := 0, slots := 0, locals := 0 } : Room) (va_Pc [.ref b, .int (nI k)] (XPp b L xs)) (vp_Si (fun _ => True)) 0 0 (fun _ => False) := by
  refine Met.ofW (cc := cL_at) (maxL := 2) (ret := (some .int)) (by decide) rfl ?_
  intro p9 e s m args below meth c9 s₁ B hml hv
  obtain ⟨rfl, hv⟩ := hv
  have hx := B.exec
  have hb := B.bytes
  have hr := B.returns
  have hts : ∀ w9 ∈ tb, w9.before ([.ref b, .int (nI k)] : List Value).toArray s = true := fun w9 h9 => atoms_spec (ws := (wA yL_at cL_at 2 (some .int))) B.pre w9 (List.mem_cons_of_mem _ h9)
  have hown : s.vm.findClass RL = some m.cls := findClass_of_methodNamed B.named
  have hlocks := B.notSynchronized
  have hl := lv_entry ([.ref b, .int (nI k)]) (n := 2) (Nat.le_of_ble_eq_true rfl)
  rw [lg_entry_eq]
  generalize (lg_sl ([.ref b, .int (nI k)]) ++ List.replicate (2 - (lg_sl ([.ref b, .int (nI k)])).length) Slot.unset).toArray = ls at hl ⊢
  have hl : lv_has ls 2 [(0, .ref b), (1, .int (nI k))] := hl
  obtain ⟨hX, hbl⟩ := hv
  have hS0 : va_S (fun _ => False) s.heap s.heap [] := va_S.rf
  refine lv_iload_n hx hb dL_at_0 rfl (lv_at hl 1 rfl) ?_
  refine lv_aload_n hx hb dL_at_1 rfl (lv_at hl 0 rfl) ?_
  refine va_slen hx hb hX hbl (fun h => h) hS0 dL_at_2 ?_
  refine lv_icmp_ge (tgt := 12) hx hb dL_at_3 (by decide) (fun c_1 => ?_) (fun c_1 => ?_)
  · refine lv_iconst (v := 0) hx hb dL_at_12 (by decide) ?_
    exact W.iret (v := 0) hx hb hr (fun t ht hW => ⟨_, rfl, trivial, ht⟩) (fun q h => absurd h List.not_mem_nil) dL_at_13
  · have hkL : k < L := by
      rcases Nat.lt_or_ge k L with h | h
      · exact h
      · exact absurd (nI_le (a := L) (b := k) h (by omega)) c_1
    refine lv_aload_n hx hb dL_at_6 rfl (lv_at hl 0 rfl) ?_
    refine lv_iload_n hx hb dL_at_7 rfl (lv_at hl 1 rfl) ?_
    refine va_sld hx hb hX hbl (fun h => h) hS0 (vp_in_nI hkL (by omega)) dL_at_8 ?_
    refine lv_goto (tgt := 13) hx hb dL_at_9 (by decide) ?_
    exact W.iret hx hb hr (fun t ht hW => ⟨_, rfl, trivial, ht⟩) (fun q h => absurd h List.not_mem_nil) dL_at_13
theorem some_r (v : Int32) (n : Nat) (h0 : 0 < n) (hn : n < 1000) : (v - v / nI n * nI n).toInt = v.toInt.tmod n := by
  have hr := v.toInt_lt
  have hr2 := v.le_toInt
  have en : (nI n).toInt = n := nI_toInt (by omega)
  have hd : (v / nI n).toInt = v.toInt.tdiv n := by
    rw [Int32.toInt_div, en]
    have h1 : (v.toInt.tdiv n).natAbs ≤ v.toInt.natAbs := Int.natAbs_tdiv_le_natAbs v.toInt n
    by_cases hv : v.toInt = -2147483648
    · by_cases h1n : n = 1
      · subst h1n
        exact fb_bmod (by simp only [Int.natCast_one, Int.tdiv_one]; omega) (by simp only [Int.natCast_one, Int.tdiv_one]; omega)
      · have h2 : (v.toInt.tdiv n).natAbs ≤ 1073741824 := by
          rw [Int.natAbs_tdiv, hv]
          show 2147483648 / n ≤ _
          have : 2147483648 / n ≤ 2147483648 / 2 := Nat.div_le_div_left (by omega) (by decide)
          omega
        exact fb_bmod (by omega) (by omega)
    · exact fb_bmod (by omega) (by omega)
  have hm : (v / nI n * nI n).toInt = v.toInt.tdiv n * n := by
    rw [Int32.toInt_mul, hd, en]
    have h2 := Int.natAbs_tdiv_le_natAbs v.toInt n
    have h3 : (v.toInt.tdiv n * n).natAbs ≤ v.toInt.natAbs := by
      rw [Int.natAbs_mul, Int.natAbs_tdiv]
      exact Nat.div_mul_le_self _ _
    have h4 : (0 ≤ v.toInt → 0 ≤ v.toInt.tdiv n * n) := fun h => Int.mul_nonneg (Int.tdiv_nonneg h (by omega)) (by omega)
    have h6 : (v.toInt ≤ 0 → v.toInt.tdiv n * n ≤ 0) := fun h => by
      have h7 := Int.tdiv_nonneg (a := -v.toInt) (b := (n : Int)) (by omega) (by omega)
      rw [Int.neg_tdiv] at h7
      exact Int.mul_nonpos_of_nonpos_of_nonneg (by omega) (by omega)
    exact fb_bmod (by omega) (by omega)
  have h1 := Int.tmod_def v.toInt n
  have h5 : v.toInt.tmod n = v.toInt - v.toInt.tdiv n * n := by
    have := Int.mul_comm (n : Int) (v.toInt.tdiv n)
    omega
  rw [Int32.toInt_sub, hm, h5]
  have h3 : (v.toInt.tdiv n * n).natAbs ≤ v.toInt.natAbs := by
    rw [Int.natAbs_mul, Int.natAbs_tdiv]
    exact Nat.div_mul_le_self _ _
  have h4 : (0 ≤ v.toInt → 0 ≤ v.toInt.tdiv n * n) := fun h => Int.mul_nonneg (Int.tdiv_nonneg h (by omega)) (by omega)
  have h6 : (v.toInt ≤ 0 → v.toInt.tdiv n * n ≤ 0) := fun h => by
    have h7 := Int.tdiv_nonneg (a := -v.toInt) (b := (n : Int)) (by omega) (by omega)
    rw [Int.neg_tdiv] at h7
    exact Int.mul_nonpos_of_nonpos_of_nonneg (by omega) (by omega)
  exact fb_bmod (by omega) (by omega)
theorem tm_lt (x : Int) (n : Nat) (h0 : 0 < n) : -(n : Int) < x.tmod n ∧ x.tmod n < n := by
  have := Int.natAbs_tmod x n
  have h2 : x.natAbs % n < n := Nat.mod_lt _ h0
  have h3 : (x.tmod n).natAbs < n := by rw [this]; exact h2
  omega

set_option maxRecDepth 100000 in
set_option maxHeartbeats 4000000 in
theorem cl_L_some (l : Launch) (v : Int32) (n : Nat) (h0 : 0 < n) (hn : n < 1000) : Met l yL_some (wA yL_some cL_some 3 (some .int)) ({ frames := 0, cells := 0, slots := 0, locals := 0 } : Room) (va_Pc [.int v, .int (nI n)] (fun _ => True)) (vp_Si (fun r => ∃ j, j < n ∧ r = nI j)) 0 0 (fun _ => False) := by
  refine Met.ofW (cc := cL_some) (maxL := 3) (ret := (some .int)) (by decide) rfl ?_
  intro p9 e s m args below meth c9 s₁ B hml hv
  obtain ⟨rfl, hv⟩ := hv
  have hx := B.exec
  have hb := B.bytes
  have hr := B.returns
  have hts : ∀ w9 ∈ tb, w9.before ([.int v, .int (nI n)] : List Value).toArray s = true := fun w9 h9 => atoms_spec (ws := (wA yL_some cL_some 3 (some .int))) B.pre w9 (List.mem_cons_of_mem _ h9)
  have hown : s.vm.findClass RL = some m.cls := findClass_of_methodNamed B.named
  have hlocks := B.notSynchronized
  have hl := lv_entry ([.int v, .int (nI n)]) (n := 3) (Nat.le_of_ble_eq_true rfl)
  rw [lg_entry_eq]
  generalize (lg_sl ([.int v, .int (nI n)]) ++ List.replicate (3 - (lg_sl ([.int v, .int (nI n)])).length) Slot.unset).toArray = ls at hl ⊢
  have hl : lv_has ls 3 [(0, .int v), (1, .int (nI n))] := hl
  obtain ⟨r0, hr0⟩ : ∃ r0, r0 = v - v / nI n * nI n := ⟨_, rfl⟩
  have hri : r0.toInt = v.toInt.tmod n := by rw [hr0]; exact some_r v n h0 hn
  have hlt := tm_lt v.toInt n h0
  refine lv_iload_n hx hb dL_some_0 rfl (lv_at hl 0 rfl) ?_
  refine lv_iload_n hx hb dL_some_1 rfl (lv_at hl 1 rfl) ?_
  refine lv_irem hx hb dL_some_2 (nI_ne0 h0 (by omega)) ?_
  rw [← hr0]
  refine lv_istore_n (lv' := [(2, .int r0), (0, .int v), (1, .int (nI n))]) hx hb dL_some_3 rfl hl (by decide) rfl (fun ls hl => ?_)
  refine lv_iload_n hx hb dL_some_4 rfl (lv_at hl 0 rfl) ?_
  refine lv_if_ge (tgt := 14) hx hb dL_some_5 (by decide) (fun c_1 => ?_) (fun c_1 => ?_)
  · refine lv_iload_n hx hb dL_some_14 rfl (lv_at hl 0 rfl) ?_
    have h1 : (0 : Int) ≤ r0.toInt := by
      have := Int32.le_iff_toInt_le.mp c_1
      simpa using this
    obtain ⟨j, hj, e⟩ := nI_of (x := r0) (fun h => by have := Int32.lt_iff_toInt_lt.mp h; rw [Int32.toInt_zero] at this; omega)
    have hj2 : j < n := by
      have e2 : r0.toInt = j := by rw [e]; exact nI_toInt hj
      omega
    exact W.iret hx hb hr (fun t ht hW => ⟨_, rfl, ⟨j, hj2, e⟩, ht⟩) (fun q h => absurd h List.not_mem_nil) dL_some_15
  · refine lv_iload_n hx hb dL_some_8 rfl (lv_at hl 0 rfl) ?_
    refine lv_iload_n hx hb dL_some_9 rfl (lv_at hl 2 rfl) ?_
    refine lv_iadd hx hb dL_some_10 ?_
    refine lv_goto (tgt := 15) hx hb dL_some_11 (by decide) ?_
    have h1 : r0.toInt < 0 := by
      by_cases h : r0.toInt < 0
      · exact h
      · exact absurd (Int32.le_iff_toInt_le.mpr (by rw [Int32.toInt_zero]; omega)) c_1
    have e3 : (r0 + nI n).toInt = r0.toInt + n := by
      rw [fb_addI (by rw [nI_toInt (by omega)]; omega) (by rw [nI_toInt (by omega)]; omega), nI_toInt (by omega)]
    obtain ⟨j, hj, e⟩ := nI_of (x := r0 + nI n) (fun h => by have := Int32.lt_iff_toInt_lt.mp h; rw [Int32.toInt_zero] at this; omega)
    have hj2 : j < n := by
      have e2 : (r0 + nI n).toInt = j := by rw [e]; exact nI_toInt hj
      omega
    exact W.iret hx hb hr (fun t ht hW => ⟨_, rfl, ⟨j, hj2, e⟩, ht⟩) (fun q h => absurd h List.not_mem_nil) dL_some_15
def dz (v : UInt64) : Int32 := Op.cmpValue (FP.dcmp v v) .l
def dl (v : UInt64) : Int64 := if dz v = 0 then v.toInt64 else 9221120237041090560

set_option maxRecDepth 100000 in
set_option maxHeartbeats 4000000 in
theorem cl_isNaN (l : Launch) (v : UInt64) : Met l yJxe99ae_isNaN_b9ae7 (wA yJxe99ae_isNaN_b9ae7 cJxe99ae_isNaN_b9ae7 2 (some .boolean)) ({ frames := 0, cells := 0, slots := 0, locals := 0 } : Room) (va_Pc [.double v] (fun _ => True)) (vp_Si (fun r => r = if dz v = 0 then 0 else 1)) 0 0 (fun _ => False) := by
  refine Met.ofW (cc := cJxe99ae_isNaN_b9ae7) (maxL := 2) (ret := (some .boolean)) (by decide) rfl ?_
  intro p9 e s m args below meth c9 s₁ B hml hv
  obtain ⟨rfl, hv⟩ := hv
  have hx := B.exec
  have hb := B.bytes
  have hr := B.returns
  have hts : ∀ w9 ∈ tb, w9.before ([.double v] : List Value).toArray s = true := fun w9 h9 => atoms_spec (ws := (wA yJxe99ae_isNaN_b9ae7 cJxe99ae_isNaN_b9ae7 2 (some .boolean))) B.pre w9 (List.mem_cons_of_mem _ h9)
  have hown : s.vm.findClass RJxe99ae = some m.cls := findClass_of_methodNamed B.named
  have hlocks := B.notSynchronized
  have hl := lv_entry ([.double v]) (n := 2) (Nat.le_of_ble_eq_true rfl)
  rw [lg_entry_eq]
  generalize (lg_sl ([.double v]) ++ List.replicate (2 - (lg_sl ([.double v])).length) Slot.unset).toArray = ls at hl ⊢
  have hl : lv_has ls 2 [(0, .double v)] := hl
  refine lv_dload_n hx hb dJxe99ae_isNaN_b9ae7_0 rfl (lv_at hl 0 rfl) ?_
  refine lv_dload_n hx hb dJxe99ae_isNaN_b9ae7_1 rfl (lv_at hl 0 rfl) ?_
  refine lv_dcmp hx hb dJxe99ae_isNaN_b9ae7_2 ?_
  refine lv_if_eq (tgt := 10) hx hb dJxe99ae_isNaN_b9ae7_3 (by decide) (fun c_1 => ?_) (fun c_1 => ?_)
  · refine lv_iconst (v := 0) hx hb dJxe99ae_isNaN_b9ae7_10 (by decide) ?_
    exact W.zret (ty := .boolean) (v := 0) hx hb hr (by decide) (fun t ht hW => ⟨_, rfl, (if_pos c_1).symm, ht⟩) (fun q h => absurd h List.not_mem_nil) dJxe99ae_isNaN_b9ae7_11
  · refine lv_iconst (v := 1) hx hb dJxe99ae_isNaN_b9ae7_6 (by decide) ?_
    refine lv_goto (tgt := 11) hx hb dJxe99ae_isNaN_b9ae7_7 (by decide) ?_
    exact W.zret (ty := .boolean) (v := 1) hx hb hr (by decide) (fun t ht hW => ⟨_, rfl, (if_neg c_1).symm, ht⟩) (fun q h => absurd h List.not_mem_nil) dJxe99ae_isNaN_b9ae7_11

theorem gw_Jxe99ae_122 : GoodIn tb (va_wsS RJxe99ae 122 yJxe99ae_isNaN_b9ae7 (wA yJxe99ae_isNaN_b9ae7 cJxe99ae_isNaN_b9ae7 2 (some .boolean))) := gS kw_970 kw_971 kw_51 kw_972
set_option maxRecDepth 100000 in
set_option maxHeartbeats 4000000 in
theorem cl_dlb (l : Launch) (v : UInt64) : Met l yJxe99ae_doubleToLongBits_ccdee (wA yJxe99ae_doubleToLongBits_ccdee cJxe99ae_doubleToLongBits_ccdee 2 (some .long)) ({ frames := 1, cells := 0, slots := 0, locals := 21 } : Room) (va_Pc [.double v] (fun _ => True)) (vp_Sl (fun r => r = dl v)) 0 0 (fun _ => False) := by
  refine Met.ofW (cc := cJxe99ae_doubleToLongBits_ccdee) (maxL := 2) (ret := (some .long)) (by decide) rfl ?_
  intro p9 e s m args below meth c9 s₁ B hml hv
  obtain ⟨rfl, hv⟩ := hv
  have hx := B.exec
  have hb := B.bytes
  have hr := B.returns
  have hts : ∀ w9 ∈ tb, w9.before ([.double v] : List Value).toArray s = true := fun w9 h9 => atoms_spec (ws := (wA yJxe99ae_doubleToLongBits_ccdee cJxe99ae_doubleToLongBits_ccdee 2 (some .long))) B.pre w9 (List.mem_cons_of_mem _ h9)
  have hown : s.vm.findClass RJxe99ae = some m.cls := findClass_of_methodNamed B.named
  have hlocks := B.notSynchronized
  have hl := lv_entry ([.double v]) (n := 2) (Nat.le_of_ble_eq_true rfl)
  rw [lg_entry_eq]
  generalize (lg_sl ([.double v]) ++ List.replicate (2 - (lg_sl ([.double v])).length) Slot.unset).toArray = ls at hl ⊢
  have hl : lv_has ls 2 [(0, .double v)] := hl
  refine lv_dload_n hx hb dJxe99ae_doubleToLongBits_ccdee_0 rfl (lv_at hl 0 rfl) ?_
  refine vp_callSi (va_runS (As := [.double v]) (rest := []) ⟨hx, hb, hml, hown, hts⟩ (cl_isNaN l v) (va_cwS 1 hts gw_Jxe99ae_122 rfl rfl rfl (by decide +kernel) ⟨Nat.le_of_ble_eq_true rfl, Nat.le_of_ble_eq_true rfl⟩) ps_0 rfl rfl hl.1 rfl (lv_room (Nat.le_of_ble_eq_true rfl)) dJxe99ae_doubleToLongBits_ccdee_1 ⟨Nat.le_of_ble_eq_true rfl, Nat.le_of_ble_eq_true rfl⟩).run (nm_e ?_)
  by_cases hz : dz v = 0
  · rw [if_pos hz]
    refine lv_if_ne (tgt := 12) hx hb dJxe99ae_doubleToLongBits_ccdee_4 (by decide) (fun c_1 => absurd (by decide) c_1) (fun _ => ?_)
    refine lv_dload_n hx hb dJxe99ae_doubleToLongBits_ccdee_7 rfl (lv_at hl 0 rfl) ?_
    refine vn_d2l hx hb (hml.trans hl.1.symm) hown (hts _ kw_973) (hts _ kw_975) (hts _ kw_974) (hts _ kw_51) (Nat.le_of_ble_eq_true rfl) (Nat.le_of_ble_eq_true rfl) dJxe99ae_doubleToLongBits_ccdee_8 ?_
    exact W.lret hx hb hr (fun t ht hW => ⟨_, rfl, (if_pos hz).symm, ht⟩) (fun q h => absurd h List.not_mem_nil) dJxe99ae_doubleToLongBits_ccdee_11
  · rw [if_neg hz]
    refine lv_if_ne (tgt := 12) hx hb dJxe99ae_doubleToLongBits_ccdee_4 (by decide) (fun _ => ?_) (fun c_1 => absurd c_1 (by decide))
    refine lv_ldc2 hx hb hown (hts _ kw_976) dJxe99ae_doubleToLongBits_ccdee_12 ?_
    exact W.lret hx hb hr (fun t ht hW => ⟨_, rfl, (if_neg hz).symm, ht⟩) (fun q h => absurd h List.not_mem_nil) dJxe99ae_doubleToLongBits_ccdee_15

