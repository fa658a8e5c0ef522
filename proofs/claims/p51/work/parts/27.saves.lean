def x_restore (fl : Nat → Int32) : Nat := if z01 (fl 0) = 0 then 4 else 0
theorem gw_X7_313 : GoodIn tb (wsV RX7 313 RX1 yX1_copyFrom (wA yX1_copyFrom cX1_copyFrom 3 none)) := gV kw_314 kw_315 kw_316 kw_25 kw_317
theorem gw_X7_338 : GoodIn tb (wsV RX7 338 RX3 yX3_clear (wA yX3_clear cX3_clear 1 none)) := gV kw_912 kw_913 kw_914 kw_27 kw_915
set_option maxRecDepth 100000 in
set_option maxHeartbeats 4000000 in
theorem c_X7_save (l : Launch) (D : va_G) (G : GA) (B0 : Nat) (X : Nat → Nat → Nat) (ad : AD) (c0 c1 c2 : CS) (hS : Nat → CS) (hn : Nat) (sv : SV) (lv : LV) (bs fl : Nat → Int32) (sz : Nat) : Met l yX7_save (wA yX7_save cX7_save 1 (some .int)) ({ frames := 2, cells := 0, slots := 0, locals := 45 } : Room) (va_Pc [.ref (ad.1 3 0)] (CBp D G B0 X ad c0 c1 c2 hS hn sv lv bs fl sz)) (va_Qi (fun (r : Int32) (u : Unit) => r = s_countItems c0) (fun u t9 => va_P D vwCl (CBL G X ad c0 c1 c0 hS hn sv lv bs (upd fl 0 1)).flatten t9.heap ∧ va_D (va_A (CBL G X ad c0 c1 c2 hS hn sv lv bs fl).flatten sz) (CBL G X ad c0 c1 c0 hS hn sv lv bs (upd fl 0 1)).flatten) (va_A (CBL G X ad c0 c1 c2 hS hn sv lv bs fl).flatten sz)) 0 0 (va_A (CBL G X ad c0 c1 c2 hS hn sv lv bs fl).flatten sz) := by
  refine Met.ofW (cc := cX7_save) (maxL := 1) (ret := (some .int)) (by decide) rfl ?_
  intro p9 e s m args below meth c9 s₁ B hml hv
  obtain ⟨rfl, hsz, hP, hK, hDB, hE⟩ := hv
  have hx := B.exec
  have hb := B.bytes
  have hr := B.returns
  have hts : ∀ w9 ∈ tb, w9.before ([.ref (ad.1 3 0)] : List Value).toArray s = true := fun w9 h9 => atoms_spec (ws := (wA yX7_save cX7_save 1 (some .int))) B.pre w9 (List.mem_cons_of_mem _ h9)
  have hown : s.vm.findClass RX7 = some m.cls := findClass_of_methodNamed B.named
  have hlocks := B.notSynchronized
  subst hsz
  have hD := hDB.self (sz := s.heap.size)
  have hAB := A_sub hDB hE.1
  generalize hAe : va_A (CBL G X ad c0 c1 c2 hS hn sv lv bs fl).flatten s.heap.size = A at hD hAB ⊢
  have hA0 : ∀ q : Nat, s.heap.size ≤ q → A q := fun q h => by rw [← hAe]; exact Or.inr h
  have hS0 : va_S A s.heap s.heap [] := va_S.rf
  have hl := lv_entry ([.ref (ad.1 3 0)]) (n := 1) (Nat.le_of_ble_eq_true rfl)
  rw [lg_entry_eq]
  generalize (lg_sl ([.ref (ad.1 3 0)]) ++ List.replicate (1 - (lg_sl ([.ref (ad.1 3 0)])).length) Slot.unset).toArray = ls at hl ⊢
  have hl : lv_has ls 1 [(0, .ref (ad.1 3 0))] := hl
  refine lv_aload_n hx hb dX7_save_0 rfl (lv_at hl 0 rfl) ?_
  refine va_get (D := D) (ci := 8) (v := .ref (ad.1 2 0)) (C := RX7) (T := TX7) (N := 12) hx hb hts i_X7 hown hK (P_blk hP (i := 0) rfl) 0 rfl rfl 2 (by decide) (hts _ kw_230) (fun _ h9 => h9) rfl dX7_save_1 ?_
  refine lv_aload_n hx hb dX7_save_4 rfl (lv_at hl 0 rfl) ?_
  refine va_get (D := D) (ci := 8) (v := .ref (ad.1 0 0)) (C := RX7) (T := TX7) (N := 12) hx hb hts i_X7 hown hK (P_blk hP (i := 0) rfl) 0 rfl rfl 0 (by decide) (hts _ kw_228) (fun _ h9 => h9) rfl dX7_save_5 ?_
  have hbi : (CBL G X ad c0 c1 c2 hS hn sv lv bs fl)[3]? = some (cw G (ad.1 2) c2) := rfl
  have hbj : (CBL G X ad c0 c1 c2 hS hn sv lv bs fl)[1]? = some (cw G (ad.1 0) c0) := rfl
  have hFc := freeB hD hbi hS0 hA0
  have hDc : va_D (fun _ => True) (cw G (ad.1 2) c2 ++ cw G (ad.1 0) c0) := D_app ((D_blk hD hbi).weaken (fun _ _ _ _ => trivial)) ((D_blk hD hbj).weaken (fun _ _ _ _ => trivial)) (dj_blk hD hbi hbj (by decide))
  refine va_callv (va_runV (As := [.ref (ad.1 0 0)]) (rest := []) ⟨hx, hb, hml, hown, hts⟩ (c_X1_copyFrom l D G (ad.1 2) c2 (ad.1 0) c0 s.heap.size) (cwV 1 hts gw_X7_313 rfl rfl rfl (by decide +kernel) ⟨Nat.le_of_ble_eq_true rfl, Nat.le_of_ble_eq_true rfl⟩) (pv_cc hK (P_blk hP hbi) (P_blk hP hbj) hDc) rfl rfl hl.1 rfl (lv_room (Nat.le_of_ble_eq_true rfl)) dX7_save_8 ⟨Nat.le_of_ble_eq_true rfl, Nat.le_of_ble_eq_true rfl⟩) hS0 (fun q _ h => hFc q h) hFc (fun u t9 H1 locs ht hvm hw hB hz1 hk1 hS0 => ?_)
  have hB : va_P D vwCl (cw G (ad.1 2) c0) H1 := by have h9 := hB; rw [ht] at h9; exact h9
  have hP := P_rep hP hD hbi hk1 hB
  have hD := D_rep (C1 := cw G (ad.1 2) c0) hD hbi (cw_addr G _ _ _)
  obtain ⟨H, rfl⟩ : ∃ z, z = H1 := ⟨_, rfl⟩
  have hP : va_P D vwCl (CBL G X ad c0 c1 c0 hS hn sv lv bs fl).flatten H := hP
  have hD : va_D A (CBL G X ad c0 c1 c0 hS hn sv lv bs fl).flatten := hD
  refine lv_aload_n hx hb dX7_save_11 rfl (lv_at hl 0 rfl) ?_
  refine lv_iconst (v := 1) hx hb dX7_save_12 (by decide) ?_
  refine va_put (D := D) (ci := 8) (v := .int 1) (ty := .boolean) (C := RX7) (T := TX7) (N := 12) hx hb hts i_X7 tyX7 tyX7_ok nmX7 hown hK hP hD hS0 0 rfl rfl 7 (by decide) (hts _ kw_235) (fun _ h9 => h9) rfl (by decide +kernel) (by decide) (by decide) (Nat.le_of_ble_eq_true rfl) dX7_save_13 (fun H locs hP hD hS0 => ?_)
  have hP : va_P D vwCl (CBL G X ad c0 c1 c0 hS hn sv lv bs (upd fl 0 1)).flatten H := hP
  have hD : va_D A (CBL G X ad c0 c1 c0 hS hn sv lv bs (upd fl 0 1)).flatten := hD
  refine lv_aload_n hx hb dX7_save_16 rfl (lv_at hl 0 rfl) ?_
  refine va_get (D := D) (ci := 8) (v := .ref (ad.1 0 0)) (C := RX7) (T := TX7) (N := 12) hx hb hts i_X7 hown hK (P_blk hP (i := 0) rfl) 0 rfl rfl 0 (by decide) (hts _ kw_228) (fun _ h9 => h9) rfl dX7_save_17 ?_
  have hPc : va_P D vwCl (cw G (ad.1 0) c0) H := P_blk hP (i := 1) rfl
  refine vp_callSi (va_runV (As := []) (rest := []) ⟨hx, hb, hml, hown, hts⟩ (c_X1_countItems l D G (ad.1 0) c0) (cwV 0 hts gw_X7_156 rfl rfl rfl (by decide +kernel) ⟨Nat.le_of_ble_eq_true rfl, Nat.le_of_ble_eq_true rfl⟩) (pv_cw hK hPc) rfl rfl hl.1 rfl (lv_room (Nat.le_of_ble_eq_true rfl)) dX7_save_20 ⟨Nat.le_of_ble_eq_true rfl, Nat.le_of_ble_eq_true rfl⟩).run (nm_e ?_)
  refine W.widen (k := 0) (n := 0) (Nat.le_of_ble_eq_true rfl) (Nat.le_of_ble_eq_true rfl) ?_
  have hP9 : va_P D vwCl (CBL G X ad c0 c1 c0 hS hn sv lv bs (upd fl 0 1)).flatten H := hP
  have hD9 : va_D A (CBL G X ad c0 c1 c0 hS hn sv lv bs (upd fl 0 1)).flatten := hD
  exact (W.iret (v := (s_countItems c0)) hx hb hr (fun t ht hW => ⟨⟨(s_countItems c0), (), rfl, rfl, by rw [ht]; exact hP9, hD9⟩, hS0.F ht⟩) hS0.2.2 dX7_save_23)
set_option maxRecDepth 100000 in
set_option maxHeartbeats 4000000 in
theorem c_X7_restore (l : Launch) (hfl : l.stackTraces = false) (D : va_G) (G : GA) (B0 : Nat) (X : Nat → Nat → Nat) (ad : AD) (c0 c1 c2 : CS) (hS : Nat → CS) (hn : Nat) (sv : SV) (lv : LV) (bs fl : Nat → Int32) (hh : hn ≤ 8) (sz : Nat) : vx_Met l yX7_restore (wA yX7_restore cX7_restore 1 (some .int)) ({ frames := 6, cells := 1, slots := 6, locals := 90 } : Room) (va_Pc [.ref (ad.1 3 0)] (CBp D G B0 X ad c0 c1 c2 hS hn sv lv bs fl sz)) (va_Qi (fun (r : Int32) (u : Unit) => x_restore fl = 0 ∧ r = s_countItems c2) (fun u t9 => va_P D vwCl (CBL G X ad c2 c1 c2 hS 0 sv lv bs fl).flatten t9.heap ∧ va_D (va_A (CBL G X ad c0 c1 c2 hS hn sv lv bs fl).flatten sz) (CBL G X ad c2 c1 c2 hS 0 sv lv bs fl).flatten) (va_A (CBL G X ad c0 c1 c2 hS hn sv lv bs fl).flatten sz)) (vx_X (fun _ : Unit => x_restore fl ≠ 0) (fun E _ t9 => E = exN (x_restore fl) ∧ va_P D vwCl (CBL G X ad c0 c1 c2 hS hn sv lv bs fl).flatten t9.heap ∧ va_D (va_A (CBL G X ad c0 c1 c2 hS hn sv lv bs fl).flatten sz) (CBL G X ad c0 c1 c2 hS hn sv lv bs fl).flatten) (va_A (CBL G X ad c0 c1 c2 hS hn sv lv bs fl).flatten sz)) 1 6 (va_A (CBL G X ad c0 c1 c2 hS hn sv lv bs fl).flatten sz) := by
  refine vx_ofW (cc := cX7_restore) (maxL := 1) (ret := (some .int)) (by decide) rfl ?_
  intro p9 e s m args below meth c9 s₁ B hml hxt hv
  obtain ⟨rfl, hsz, hP, hK, hDB, hE⟩ := hv
  have hx := B.exec
  have hb := B.bytes
  have hr := B.returns
  have hts : ∀ w9 ∈ tb, w9.before ([.ref (ad.1 3 0)] : List Value).toArray s = true := fun w9 h9 => atoms_spec (ws := (wA yX7_restore cX7_restore 1 (some .int))) B.pre w9 (List.mem_cons_of_mem _ h9)
  have hown : s.vm.findClass RX7 = some m.cls := findClass_of_methodNamed B.named
  have hlocks := B.notSynchronized
  subst hsz
  have hD := hDB.self (sz := s.heap.size)
  have hAB := A_sub hDB hE.1
  generalize hAe : va_A (CBL G X ad c0 c1 c2 hS hn sv lv bs fl).flatten s.heap.size = A at hD hAB ⊢
  have hA0 : ∀ q : Nat, s.heap.size ≤ q → A q := fun q h => by rw [← hAe]; exact Or.inr h
  have hS0 : va_S A s.heap s.heap [] := va_S.rf
  have hl := lv_entry ([.ref (ad.1 3 0)]) (n := 1) (Nat.le_of_ble_eq_true rfl)
  rw [lg_entry_eq]
  generalize (lg_sl ([.ref (ad.1 3 0)]) ++ List.replicate (1 - (lg_sl ([.ref (ad.1 3 0)])).length) Slot.unset).toArray = ls at hl ⊢
  have hl : lv_has ls 1 [(0, .ref (ad.1 3 0))] := hl
  refine lv_aload_n hx hb dX7_restore_0 rfl (lv_at hl 0 rfl) ?_
  refine va_get (D := D) (ci := 8) (v := .int (z01 (fl 0))) (C := RX7) (T := TX7) (N := 12) hx hb hts i_X7 hown hK (P_blk hP (i := 0) rfl) 0 rfl rfl 7 (by decide) (hts _ kw_235) (fun _ h9 => h9) rfl dX7_restore_1 ?_
  refine lv_if_ne (tgt := 18) hx hb dX7_restore_4 (by decide) (fun c_1 => ?_) (fun c_1 => ?_)
  · skip
    refine lv_aload_n hx hb dX7_restore_18 rfl (lv_at hl 0 rfl) ?_
    refine va_get (D := D) (ci := 8) (v := .ref (ad.1 0 0)) (C := RX7) (T := TX7) (N := 12) hx hb hts i_X7 hown hK (P_blk hP (i := 0) rfl) 0 rfl rfl 0 (by decide) (hts _ kw_228) (fun _ h9 => h9) rfl dX7_restore_19 ?_
    refine lv_aload_n hx hb dX7_restore_22 rfl (lv_at hl 0 rfl) ?_
    refine va_get (D := D) (ci := 8) (v := .ref (ad.1 2 0)) (C := RX7) (T := TX7) (N := 12) hx hb hts i_X7 hown hK (P_blk hP (i := 0) rfl) 0 rfl rfl 2 (by decide) (hts _ kw_230) (fun _ h9 => h9) rfl dX7_restore_23 ?_
    have hbi : (CBL G X ad c0 c1 c2 hS hn sv lv bs fl)[1]? = some (cw G (ad.1 0) c0) := rfl
    have hbj : (CBL G X ad c0 c1 c2 hS hn sv lv bs fl)[3]? = some (cw G (ad.1 2) c2) := rfl
    have hFc := freeB hD hbi hS0 hA0
    have hDc : va_D (fun _ => True) (cw G (ad.1 0) c0 ++ cw G (ad.1 2) c2) := D_app ((D_blk hD hbi).weaken (fun _ _ _ _ => trivial)) ((D_blk hD hbj).weaken (fun _ _ _ _ => trivial)) (dj_blk hD hbi hbj (by decide))
    refine va_callv (va_runV (As := [.ref (ad.1 2 0)]) (rest := []) ⟨hx, hb, hml, hown, hts⟩ (c_X1_copyFrom l D G (ad.1 0) c0 (ad.1 2) c2 s.heap.size) (cwV 1 hts gw_X7_313 rfl rfl rfl (by decide +kernel) ⟨Nat.le_of_ble_eq_true rfl, Nat.le_of_ble_eq_true rfl⟩) (pv_cc hK (P_blk hP hbi) (P_blk hP hbj) hDc) rfl rfl hl.1 rfl (lv_room (Nat.le_of_ble_eq_true rfl)) dX7_restore_26 ⟨Nat.le_of_ble_eq_true rfl, Nat.le_of_ble_eq_true rfl⟩) hS0 (fun q _ h => hFc q h) hFc (fun u t9 H1 locs ht hvm hw hB hz1 hk1 hS0 => ?_)
    have hB : va_P D vwCl (cw G (ad.1 0) c2) H1 := by have h9 := hB; rw [ht] at h9; exact h9
    have hP := P_rep hP hD hbi hk1 hB
    have hD := D_rep (C1 := cw G (ad.1 0) c2) hD hbi (cw_addr G _ _ _)
    obtain ⟨H, rfl⟩ : ∃ z, z = H1 := ⟨_, rfl⟩
    have hP : va_P D vwCl (CBL G X ad c2 c1 c2 hS hn sv lv bs fl).flatten H := hP
    have hD : va_D A (CBL G X ad c2 c1 c2 hS hn sv lv bs fl).flatten := hD
    refine lv_aload_n hx hb dX7_restore_29 rfl (lv_at hl 0 rfl) ?_
    refine va_get (D := D) (ci := 8) (v := .ref (ad.1 3 1)) (C := RX7) (T := TX7) (N := 12) hx hb hts i_X7 hown hK (P_blk hP (i := 0) rfl) 0 rfl rfl 3 (by decide) (hts _ kw_231) (fun _ h9 => h9) rfl dX7_restore_30 ?_
    have hb4 : (CBL G X ad c2 c1 c2 hS hn sv lv bs fl)[4]? = some (HBL G (ad.1 3 1) (ad.1 3 2) (hR ad.2.1) (nI hn) ad.2.1 hS).flatten := rfl
    have hFc := freeB hD hb4 hS0 hA0
    refine va_callv (va_runV (As := []) (rest := []) ⟨hx, hb, hml, hown, hts⟩ (c_X3_clear l D G (ad.1 3 1) (ad.1 3 2) ad.2.1 hS hn hh H.size) (cwV 0 hts gw_X7_338 rfl rfl rfl (by decide +kernel) ⟨Nat.le_of_ble_eq_true rfl, Nat.le_of_ble_eq_true rfl⟩) (pv_hm hK (P_blk hP hb4) (D_blk hD hb4)) rfl rfl hl.1 rfl (lv_room (Nat.le_of_ble_eq_true rfl)) dX7_restore_33 ⟨Nat.le_of_ble_eq_true rfl, Nat.le_of_ble_eq_true rfl⟩) hS0 (fun q _ h => hFc q h) hFc (fun u t9 H1 locs ht hvm hw hB hz1 hk1 hS0 => ?_)
    have hB : va_P D vwCl (HBL G (ad.1 3 1) (ad.1 3 2) (hR ad.2.1) (nI 0) ad.2.1 hS).flatten H1 := by have h9 := hB; rw [ht] at h9; exact h9
    have hP := P_rep hP hD hb4 hk1 hB
    have hD := D_rep (C1 := (HBL G (ad.1 3 1) (ad.1 3 2) (hR ad.2.1) (nI 0) ad.2.1 hS).flatten) hD hb4 rfl
    obtain ⟨H, rfl⟩ : ∃ z, z = H1 := ⟨_, rfl⟩
    have hP : va_P D vwCl (CBL G X ad c2 c1 c2 hS 0 sv lv bs fl).flatten H := hP
    have hD : va_D A (CBL G X ad c2 c1 c2 hS 0 sv lv bs fl).flatten := hD
    refine lv_aload_n hx hb dX7_restore_36 rfl (lv_at hl 0 rfl) ?_
    refine va_get (D := D) (ci := 8) (v := .ref (ad.1 0 0)) (C := RX7) (T := TX7) (N := 12) hx hb hts i_X7 hown hK (P_blk hP (i := 0) rfl) 0 rfl rfl 0 (by decide) (hts _ kw_228) (fun _ h9 => h9) rfl dX7_restore_37 ?_
    have hPc : va_P D vwCl (cw G (ad.1 0) c2) H := P_blk hP (i := 1) rfl
    refine vp_callSi (va_runV (As := []) (rest := []) ⟨hx, hb, hml, hown, hts⟩ (c_X1_countItems l D G (ad.1 0) c2) (cwV 0 hts gw_X7_156 rfl rfl rfl (by decide +kernel) ⟨Nat.le_of_ble_eq_true rfl, Nat.le_of_ble_eq_true rfl⟩) (pv_cw hK hPc) rfl rfl hl.1 rfl (lv_room (Nat.le_of_ble_eq_true rfl)) dX7_restore_40 ⟨Nat.le_of_ble_eq_true rfl, Nat.le_of_ble_eq_true rfl⟩).run (nm_e ?_)
    refine W.widen (k := 1) (n := 6) (Nat.le_of_ble_eq_true rfl) (Nat.le_of_ble_eq_true rfl) ?_
    have hP9 : va_P D vwCl (CBL G X ad c2 c1 c2 hS 0 sv lv bs fl).flatten H := hP
    have hD9 : va_D A (CBL G X ad c2 c1 c2 hS 0 sv lv bs fl).flatten := hD
    exact vx_ret (W.iret (v := (s_countItems c2)) hx hb hr (fun t ht hW => ⟨⟨(s_countItems c2), (), rfl, ⟨(by simp only [x_restore, if_neg c_1]), rfl⟩, by rw [ht]; exact hP9, hD9⟩, hS0.F ht⟩) hS0.2.2 dX7_restore_43)
  · skip
    exact tw_ise hx hb hfl hts hown hE hAB (hE.s.1 11 ("CourierBags", 336, "there is no snapshot") rfl) hS0 (hml.trans hl.1.symm).symm dX7_restore_7 dX7_restore_10 (Or.inr ⟨dX7_restore_11, rfl⟩) dX7_restore_14 dX7_restore_17 hxt (Nat.le_of_ble_eq_true rfl) (Nat.le_of_ble_eq_true rfl) (Nat.le_of_ble_eq_true rfl) (Nat.le_of_ble_eq_true rfl) hlocks (fun t hv hz hk => ⟨(), by rw [(show x_restore fl = 4 from by simp only [x_restore, if_pos c_1])]; decide, ⟨by rw [(show x_restore fl = 4 from by simp only [x_restore, if_pos c_1])]; rfl, (hP).kept (fun k q9 hq9 => hk q9.1 ((hP k q9 hq9).lt)), hD⟩, S_F hS0 hz hk⟩) hS0.2.2 (Nat.le_of_ble_eq_true rfl) (Nat.le_of_ble_eq_true rfl)
