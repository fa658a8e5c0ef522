def m_keep (c0 : CS) (fl : Nat → Int32) (k : Nat) (i b : Int32) : Nat → Int32 := if k = 5 then upd (upd fl 1 (s_refusal c0 (s_find c0 i) b)) 2 i else fl
theorem gw_X7_375 : GoodIn tb (wsV RX7 375 RX1 yX1_refusal (wA yX1_refusal cX1_refusal 4 (some .int))) := gV kw_873 kw_630 kw_631 kw_25 kw_632
set_option maxRecDepth 100000 in
set_option maxHeartbeats 4000000 in
theorem c_X7_raise (l : Launch) (hfl : l.stackTraces = false) (B0 : Nat) (X : Nat → Nat → Nat) (k : Nat) (hk : k < 6) : vx_Met l yX7_raise (wA yX7_raise cX7_raise 1 none) ({ frames := 6, cells := 1, slots := 6, locals := 90 } : Room) (va_Pc [.ref (X 0 k)] (RZp B0 X)) (va_Qv (fun _ : Unit => k = 0) (fun _ _ => True) (fun _ => False)) (vx_X (fun _ : Unit => k ≠ 0) (fun E _ _ => E = exN (k)) (fun _ => False)) 1 6 (fun _ => False) := by
  refine vx_ofW (cc := cX7_raise) (maxL := 1) (ret := none) (by decide) rfl ?_
  intro p9 e s m args below meth c9 s₁ B hml hxt hv
  obtain ⟨rfl, hE⟩ := hv
  have hx := B.exec
  have hb := B.bytes
  have hr := B.returns
  have hts : ∀ w9 ∈ tb, w9.before ([.ref (X 0 k)] : List Value).toArray s = true := fun w9 h9 => atoms_spec (ws := (wA yX7_raise cX7_raise 1 none)) B.pre w9 (List.mem_cons_of_mem _ h9)
  have hown : s.vm.findClass RX7 = some m.cls := findClass_of_methodNamed B.named
  have hlocks := B.notSynchronized
  have hAB : ∀ q : Nat, (fun _ : Nat => False) q → B0 ≤ q := fun _ h => h.elim
  have hS0 : va_S (fun _ => False) s.heap s.heap [] := va_S.rf
  have hl := lv_entry ([.ref (X 0 k)]) (n := 1) (Nat.le_of_ble_eq_true rfl)
  rw [lg_entry_eq]
  generalize (lg_sl ([.ref (X 0 k)]) ++ List.replicate (1 - (lg_sl ([.ref (X 0 k)])).length) Slot.unset).toArray = ls at hl ⊢
  have hl : lv_has ls 1 [(0, .ref (X 0 k))] := hl
  rcases (show k = 0 ∨ k = 1 ∨ k = 2 ∨ k = 3 ∨ k = 4 ∨ k = 5 by omega) with rfl | rfl | rfl | rfl | rfl | rfl
  · skip
    refine lv_aload_n hx hb dX7_raise_0 rfl (lv_at hl 0 rfl) ?_
    refine va_gets (C := "CourierBags$Fault") (n := "OUT_OF_RANGE") (d := "LCourierBags$Fault;") (v := .ref (X 0 1)) hx hb (hE.fault 1 (by decide)) (S_weak hS0 hAB) hown (hts _ kw_347) (fun _ h9 => h9) dX7_raise_1 ?_
    refine lv_acmp_ne (rx := some (X 0 0)) (ry := some (X 0 1)) (tgt := 18) hx hb dX7_raise_4 (by decide) (fun _ => ?_) (fun h9 => absurd (hE.faultNe (i := 0) (j := 1) (by decide) (by decide) (Option.some.inj h9)) (by decide))
    refine lv_aload_n hx hb dX7_raise_18 rfl (lv_at hl 0 rfl) ?_
    refine va_gets (C := "CourierBags$Fault") (n := "NO_SUCH_ITEM") (d := "LCourierBags$Fault;") (v := .ref (X 0 2)) hx hb (hE.fault 2 (by decide)) (S_weak hS0 hAB) hown (hts _ kw_420) (fun _ h9 => h9) dX7_raise_19 ?_
    refine lv_acmp_ne (rx := some (X 0 0)) (ry := some (X 0 2)) (tgt := 36) hx hb dX7_raise_22 (by decide) (fun _ => ?_) (fun h9 => absurd (hE.faultNe (i := 0) (j := 2) (by decide) (by decide) (Option.some.inj h9)) (by decide))
    refine lv_aload_n hx hb dX7_raise_36 rfl (lv_at hl 0 rfl) ?_
    refine va_gets (C := "CourierBags$Fault") (n := "NO_SUCH_BAG") (d := "LCourierBags$Fault;") (v := .ref (X 0 3)) hx hb (hE.fault 3 (by decide)) (S_weak hS0 hAB) hown (hts _ kw_438) (fun _ h9 => h9) dX7_raise_37 ?_
    refine lv_acmp_ne (rx := some (X 0 0)) (ry := some (X 0 3)) (tgt := 54) hx hb dX7_raise_40 (by decide) (fun _ => ?_) (fun h9 => absurd (hE.faultNe (i := 0) (j := 3) (by decide) (by decide) (Option.some.inj h9)) (by decide))
    refine lv_aload_n hx hb dX7_raise_54 rfl (lv_at hl 0 rfl) ?_
    refine va_gets (C := "CourierBags$Fault") (n := "WRONG_STATE") (d := "LCourierBags$Fault;") (v := .ref (X 0 4)) hx hb (hE.fault 4 (by decide)) (S_weak hS0 hAB) hown (hts _ kw_456) (fun _ h9 => h9) dX7_raise_55 ?_
    refine lv_acmp_ne (rx := some (X 0 0)) (ry := some (X 0 4)) (tgt := 72) hx hb dX7_raise_58 (by decide) (fun _ => ?_) (fun h9 => absurd (hE.faultNe (i := 0) (j := 4) (by decide) (by decide) (Option.some.inj h9)) (by decide))
    refine lv_aload_n hx hb dX7_raise_72 rfl (lv_at hl 0 rfl) ?_
    refine va_gets (C := "CourierBags$Fault") (n := "REFUSED") (d := "LCourierBags$Fault;") (v := .ref (X 0 5)) hx hb (hE.fault 5 (by decide)) (S_weak hS0 hAB) hown (hts _ kw_473) (fun _ h9 => h9) dX7_raise_73 ?_
    refine lv_acmp_ne (rx := some (X 0 0)) (ry := some (X 0 5)) (tgt := 90) hx hb dX7_raise_76 (by decide) (fun _ => ?_) (fun h9 => absurd (hE.faultNe (i := 0) (j := 5) (by decide) (by decide) (Option.some.inj h9)) (by decide))
    refine W.widen (k := 1) (n := 6) (Nat.le_of_ble_eq_true rfl) (Nat.le_of_ble_eq_true rfl) ?_
    exact vx_ret (W.vret hx hb hr (fun t ht hW => ⟨⟨(), rfl, rfl, trivial⟩, hS0.F ht⟩) hS0.2.2 dX7_raise_90)
  · skip
    refine lv_aload_n hx hb dX7_raise_0 rfl (lv_at hl 0 rfl) ?_
    refine va_gets (C := "CourierBags$Fault") (n := "OUT_OF_RANGE") (d := "LCourierBags$Fault;") (v := .ref (X 0 1)) hx hb (hE.fault 1 (by decide)) (S_weak hS0 hAB) hown (hts _ kw_347) (fun _ h9 => h9) dX7_raise_1 ?_
    refine lv_acmp_ne (rx := some (X 0 1)) (ry := some (X 0 1)) (tgt := 18) hx hb dX7_raise_4 (by decide) (fun h9 => absurd rfl h9) (fun _ => ?_)
    exact tw_iae hx hb hfl hts hown hE hAB (hE.s.1 0 ("CourierBags", 342, "an argument is out of range") rfl) hS0 (hml.trans hl.1.symm).symm dX7_raise_7 dX7_raise_10 (Or.inr ⟨dX7_raise_11, rfl⟩) dX7_raise_14 dX7_raise_17 hxt (Nat.le_of_ble_eq_true rfl) (Nat.le_of_ble_eq_true rfl) (Nat.le_of_ble_eq_true rfl) (Nat.le_of_ble_eq_true rfl) hlocks (fun t hv hz hk => ⟨(), (by decide), rfl, S_F hS0 hz hk⟩) hS0.2.2 (Nat.le_of_ble_eq_true rfl) (Nat.le_of_ble_eq_true rfl)
  · skip
    refine lv_aload_n hx hb dX7_raise_0 rfl (lv_at hl 0 rfl) ?_
    refine va_gets (C := "CourierBags$Fault") (n := "OUT_OF_RANGE") (d := "LCourierBags$Fault;") (v := .ref (X 0 1)) hx hb (hE.fault 1 (by decide)) (S_weak hS0 hAB) hown (hts _ kw_347) (fun _ h9 => h9) dX7_raise_1 ?_
    refine lv_acmp_ne (rx := some (X 0 2)) (ry := some (X 0 1)) (tgt := 18) hx hb dX7_raise_4 (by decide) (fun _ => ?_) (fun h9 => absurd (hE.faultNe (i := 2) (j := 1) (by decide) (by decide) (Option.some.inj h9)) (by decide))
    refine lv_aload_n hx hb dX7_raise_18 rfl (lv_at hl 0 rfl) ?_
    refine va_gets (C := "CourierBags$Fault") (n := "NO_SUCH_ITEM") (d := "LCourierBags$Fault;") (v := .ref (X 0 2)) hx hb (hE.fault 2 (by decide)) (S_weak hS0 hAB) hown (hts _ kw_420) (fun _ h9 => h9) dX7_raise_19 ?_
    refine lv_acmp_ne (rx := some (X 0 2)) (ry := some (X 0 2)) (tgt := 36) hx hb dX7_raise_22 (by decide) (fun h9 => absurd rfl h9) (fun _ => ?_)
    exact tw_nse hx hb hfl hts hown hE hAB (hE.s.1 1 ("CourierBags", 347, "no item has this id") rfl) hS0 (hml.trans hl.1.symm).symm dX7_raise_25 dX7_raise_28 (Or.inr ⟨dX7_raise_29, rfl⟩) dX7_raise_32 dX7_raise_35 hxt (Nat.le_of_ble_eq_true rfl) (Nat.le_of_ble_eq_true rfl) (Nat.le_of_ble_eq_true rfl) (Nat.le_of_ble_eq_true rfl) hlocks (fun t hv hz hk => ⟨(), (by decide), rfl, S_F hS0 hz hk⟩) hS0.2.2 (Nat.le_of_ble_eq_true rfl) (Nat.le_of_ble_eq_true rfl)
  · skip
    refine lv_aload_n hx hb dX7_raise_0 rfl (lv_at hl 0 rfl) ?_
    refine va_gets (C := "CourierBags$Fault") (n := "OUT_OF_RANGE") (d := "LCourierBags$Fault;") (v := .ref (X 0 1)) hx hb (hE.fault 1 (by decide)) (S_weak hS0 hAB) hown (hts _ kw_347) (fun _ h9 => h9) dX7_raise_1 ?_
    refine lv_acmp_ne (rx := some (X 0 3)) (ry := some (X 0 1)) (tgt := 18) hx hb dX7_raise_4 (by decide) (fun _ => ?_) (fun h9 => absurd (hE.faultNe (i := 3) (j := 1) (by decide) (by decide) (Option.some.inj h9)) (by decide))
    refine lv_aload_n hx hb dX7_raise_18 rfl (lv_at hl 0 rfl) ?_
    refine va_gets (C := "CourierBags$Fault") (n := "NO_SUCH_ITEM") (d := "LCourierBags$Fault;") (v := .ref (X 0 2)) hx hb (hE.fault 2 (by decide)) (S_weak hS0 hAB) hown (hts _ kw_420) (fun _ h9 => h9) dX7_raise_19 ?_
    refine lv_acmp_ne (rx := some (X 0 3)) (ry := some (X 0 2)) (tgt := 36) hx hb dX7_raise_22 (by decide) (fun _ => ?_) (fun h9 => absurd (hE.faultNe (i := 3) (j := 2) (by decide) (by decide) (Option.some.inj h9)) (by decide))
    refine lv_aload_n hx hb dX7_raise_36 rfl (lv_at hl 0 rfl) ?_
    refine va_gets (C := "CourierBags$Fault") (n := "NO_SUCH_BAG") (d := "LCourierBags$Fault;") (v := .ref (X 0 3)) hx hb (hE.fault 3 (by decide)) (S_weak hS0 hAB) hown (hts _ kw_438) (fun _ h9 => h9) dX7_raise_37 ?_
    refine lv_acmp_ne (rx := some (X 0 3)) (ry := some (X 0 3)) (tgt := 54) hx hb dX7_raise_40 (by decide) (fun h9 => absurd rfl h9) (fun _ => ?_)
    exact tw_iob hx hb hfl hts hown hE hAB (hE.s.1 2 ("CourierBags", 352, "there is no such bag") rfl) hS0 (hml.trans hl.1.symm).symm dX7_raise_43 dX7_raise_46 (Or.inr ⟨dX7_raise_47, rfl⟩) dX7_raise_50 dX7_raise_53 hxt (Nat.le_of_ble_eq_true rfl) (Nat.le_of_ble_eq_true rfl) (Nat.le_of_ble_eq_true rfl) (Nat.le_of_ble_eq_true rfl) hlocks (fun t hv hz hk => ⟨(), (by decide), rfl, S_F hS0 hz hk⟩) hS0.2.2 (Nat.le_of_ble_eq_true rfl) (Nat.le_of_ble_eq_true rfl)
  · skip
    refine lv_aload_n hx hb dX7_raise_0 rfl (lv_at hl 0 rfl) ?_
    refine va_gets (C := "CourierBags$Fault") (n := "OUT_OF_RANGE") (d := "LCourierBags$Fault;") (v := .ref (X 0 1)) hx hb (hE.fault 1 (by decide)) (S_weak hS0 hAB) hown (hts _ kw_347) (fun _ h9 => h9) dX7_raise_1 ?_
    refine lv_acmp_ne (rx := some (X 0 4)) (ry := some (X 0 1)) (tgt := 18) hx hb dX7_raise_4 (by decide) (fun _ => ?_) (fun h9 => absurd (hE.faultNe (i := 4) (j := 1) (by decide) (by decide) (Option.some.inj h9)) (by decide))
    refine lv_aload_n hx hb dX7_raise_18 rfl (lv_at hl 0 rfl) ?_
    refine va_gets (C := "CourierBags$Fault") (n := "NO_SUCH_ITEM") (d := "LCourierBags$Fault;") (v := .ref (X 0 2)) hx hb (hE.fault 2 (by decide)) (S_weak hS0 hAB) hown (hts _ kw_420) (fun _ h9 => h9) dX7_raise_19 ?_
    refine lv_acmp_ne (rx := some (X 0 4)) (ry := some (X 0 2)) (tgt := 36) hx hb dX7_raise_22 (by decide) (fun _ => ?_) (fun h9 => absurd (hE.faultNe (i := 4) (j := 2) (by decide) (by decide) (Option.some.inj h9)) (by decide))
    refine lv_aload_n hx hb dX7_raise_36 rfl (lv_at hl 0 rfl) ?_
    refine va_gets (C := "CourierBags$Fault") (n := "NO_SUCH_BAG") (d := "LCourierBags$Fault;") (v := .ref (X 0 3)) hx hb (hE.fault 3 (by decide)) (S_weak hS0 hAB) hown (hts _ kw_438) (fun _ h9 => h9) dX7_raise_37 ?_
    refine lv_acmp_ne (rx := some (X 0 4)) (ry := some (X 0 3)) (tgt := 54) hx hb dX7_raise_40 (by decide) (fun _ => ?_) (fun h9 => absurd (hE.faultNe (i := 4) (j := 3) (by decide) (by decide) (Option.some.inj h9)) (by decide))
    refine lv_aload_n hx hb dX7_raise_54 rfl (lv_at hl 0 rfl) ?_
    refine va_gets (C := "CourierBags$Fault") (n := "WRONG_STATE") (d := "LCourierBags$Fault;") (v := .ref (X 0 4)) hx hb (hE.fault 4 (by decide)) (S_weak hS0 hAB) hown (hts _ kw_456) (fun _ h9 => h9) dX7_raise_55 ?_
    refine lv_acmp_ne (rx := some (X 0 4)) (ry := some (X 0 4)) (tgt := 72) hx hb dX7_raise_58 (by decide) (fun h9 => absurd rfl h9) (fun _ => ?_)
    exact tw_ise hx hb hfl hts hown hE hAB (hE.s.1 3 ("CourierBags", 357, "not as bags and items stand") rfl) hS0 (hml.trans hl.1.symm).symm dX7_raise_61 dX7_raise_64 (Or.inr ⟨dX7_raise_65, rfl⟩) dX7_raise_68 dX7_raise_71 hxt (Nat.le_of_ble_eq_true rfl) (Nat.le_of_ble_eq_true rfl) (Nat.le_of_ble_eq_true rfl) (Nat.le_of_ble_eq_true rfl) hlocks (fun t hv hz hk => ⟨(), (by decide), rfl, S_F hS0 hz hk⟩) hS0.2.2 (Nat.le_of_ble_eq_true rfl) (Nat.le_of_ble_eq_true rfl)
  · skip
    refine lv_aload_n hx hb dX7_raise_0 rfl (lv_at hl 0 rfl) ?_
    refine va_gets (C := "CourierBags$Fault") (n := "OUT_OF_RANGE") (d := "LCourierBags$Fault;") (v := .ref (X 0 1)) hx hb (hE.fault 1 (by decide)) (S_weak hS0 hAB) hown (hts _ kw_347) (fun _ h9 => h9) dX7_raise_1 ?_
    refine lv_acmp_ne (rx := some (X 0 5)) (ry := some (X 0 1)) (tgt := 18) hx hb dX7_raise_4 (by decide) (fun _ => ?_) (fun h9 => absurd (hE.faultNe (i := 5) (j := 1) (by decide) (by decide) (Option.some.inj h9)) (by decide))
    refine lv_aload_n hx hb dX7_raise_18 rfl (lv_at hl 0 rfl) ?_
    refine va_gets (C := "CourierBags$Fault") (n := "NO_SUCH_ITEM") (d := "LCourierBags$Fault;") (v := .ref (X 0 2)) hx hb (hE.fault 2 (by decide)) (S_weak hS0 hAB) hown (hts _ kw_420) (fun _ h9 => h9) dX7_raise_19 ?_
    refine lv_acmp_ne (rx := some (X 0 5)) (ry := some (X 0 2)) (tgt := 36) hx hb dX7_raise_22 (by decide) (fun _ => ?_) (fun h9 => absurd (hE.faultNe (i := 5) (j := 2) (by decide) (by decide) (Option.some.inj h9)) (by decide))
    refine lv_aload_n hx hb dX7_raise_36 rfl (lv_at hl 0 rfl) ?_
    refine va_gets (C := "CourierBags$Fault") (n := "NO_SUCH_BAG") (d := "LCourierBags$Fault;") (v := .ref (X 0 3)) hx hb (hE.fault 3 (by decide)) (S_weak hS0 hAB) hown (hts _ kw_438) (fun _ h9 => h9) dX7_raise_37 ?_
    refine lv_acmp_ne (rx := some (X 0 5)) (ry := some (X 0 3)) (tgt := 54) hx hb dX7_raise_40 (by decide) (fun _ => ?_) (fun h9 => absurd (hE.faultNe (i := 5) (j := 3) (by decide) (by decide) (Option.some.inj h9)) (by decide))
    refine lv_aload_n hx hb dX7_raise_54 rfl (lv_at hl 0 rfl) ?_
    refine va_gets (C := "CourierBags$Fault") (n := "WRONG_STATE") (d := "LCourierBags$Fault;") (v := .ref (X 0 4)) hx hb (hE.fault 4 (by decide)) (S_weak hS0 hAB) hown (hts _ kw_456) (fun _ h9 => h9) dX7_raise_55 ?_
    refine lv_acmp_ne (rx := some (X 0 5)) (ry := some (X 0 4)) (tgt := 72) hx hb dX7_raise_58 (by decide) (fun _ => ?_) (fun h9 => absurd (hE.faultNe (i := 5) (j := 4) (by decide) (by decide) (Option.some.inj h9)) (by decide))
    refine lv_aload_n hx hb dX7_raise_72 rfl (lv_at hl 0 rfl) ?_
    refine va_gets (C := "CourierBags$Fault") (n := "REFUSED") (d := "LCourierBags$Fault;") (v := .ref (X 0 5)) hx hb (hE.fault 5 (by decide)) (S_weak hS0 hAB) hown (hts _ kw_473) (fun _ h9 => h9) dX7_raise_73 ?_
    refine lv_acmp_ne (rx := some (X 0 5)) (ry := some (X 0 5)) (tgt := 90) hx hb dX7_raise_76 (by decide) (fun h9 => absurd rfl h9) (fun _ => ?_)
    exact tw_uoe hx hb hfl hts hown hE hAB (hE.s.1 4 ("CourierBags", 364, "the packing is refused") rfl) hS0 (hml.trans hl.1.symm).symm dX7_raise_79 dX7_raise_82 (Or.inr ⟨dX7_raise_83, rfl⟩) dX7_raise_86 dX7_raise_89 hxt (Nat.le_of_ble_eq_true rfl) (Nat.le_of_ble_eq_true rfl) (Nat.le_of_ble_eq_true rfl) (Nat.le_of_ble_eq_true rfl) hlocks (fun t hv hz hk => ⟨(), (by decide), rfl, S_F hS0 hz hk⟩) hS0.2.2 (Nat.le_of_ble_eq_true rfl) (Nat.le_of_ble_eq_true rfl)
set_option maxRecDepth 100000 in
set_option maxHeartbeats 4000000 in
theorem c_X7_keepRefusal (l : Launch) (D : va_G) (G : GA) (B0 : Nat) (X : Nat → Nat → Nat) (ad : AD) (c0 c1 c2 : CS) (hS : Nat → CS) (hn : Nat) (sv : SV) (lv : LV) (bs fl : Nat → Int32) (k : Nat) (hk : k < 6) (i : Int32) (b : Int32) (sz : Nat) : Met l yX7_keepRefusal (wA yX7_keepRefusal cX7_keepRefusal 4 none) ({ frames := 4, cells := 0, slots := 0, locals := 94 } : Room) (va_Pc [.ref (ad.1 3 0), .ref (X 0 k), .int i, .int b] (CBp D G B0 X ad c0 c1 c2 hS hn sv lv bs fl sz)) (va_Qv (fun u : Unit => True) (fun u t9 => va_P D vwCl (CBL G X ad c0 c1 c2 hS hn sv lv bs (m_keep c0 fl k i b)).flatten t9.heap ∧ va_D (va_A (CBL G X ad c0 c1 c2 hS hn sv lv bs fl).flatten sz) (CBL G X ad c0 c1 c2 hS hn sv lv bs (m_keep c0 fl k i b)).flatten) (va_A (CBL G X ad c0 c1 c2 hS hn sv lv bs fl).flatten sz)) 0 0 (va_A (CBL G X ad c0 c1 c2 hS hn sv lv bs fl).flatten sz) := by
  refine Met.ofW (cc := cX7_keepRefusal) (maxL := 4) (ret := none) (by decide) rfl ?_
  intro p9 e s m args below meth c9 s₁ B hml hv
  obtain ⟨rfl, hsz, hP, hK, hDB, hE⟩ := hv
  have hx := B.exec
  have hb := B.bytes
  have hr := B.returns
  have hts : ∀ w9 ∈ tb, w9.before ([.ref (ad.1 3 0), .ref (X 0 k), .int i, .int b] : List Value).toArray s = true := fun w9 h9 => atoms_spec (ws := (wA yX7_keepRefusal cX7_keepRefusal 4 none)) B.pre w9 (List.mem_cons_of_mem _ h9)
  have hown : s.vm.findClass RX7 = some m.cls := findClass_of_methodNamed B.named
  have hlocks := B.notSynchronized
  subst hsz
  have hD := hDB.self (sz := s.heap.size)
  have hAB := A_sub hDB hE.1
  generalize hAe : va_A (CBL G X ad c0 c1 c2 hS hn sv lv bs fl).flatten s.heap.size = A at hD hAB ⊢
  have hA0 : ∀ q : Nat, s.heap.size ≤ q → A q := fun q h => by rw [← hAe]; exact Or.inr h
  have hS0 : va_S A s.heap s.heap [] := va_S.rf
  have hl := lv_entry ([.ref (ad.1 3 0), .ref (X 0 k), .int i, .int b]) (n := 4) (Nat.le_of_ble_eq_true rfl)
  rw [lg_entry_eq]
  generalize (lg_sl ([.ref (ad.1 3 0), .ref (X 0 k), .int i, .int b]) ++ List.replicate (4 - (lg_sl ([.ref (ad.1 3 0), .ref (X 0 k), .int i, .int b])).length) Slot.unset).toArray = ls at hl ⊢
  have hl : lv_has ls 4 [(0, .ref (ad.1 3 0)), (1, .ref (X 0 k)), (2, .int i), (3, .int b)] := hl
  refine lv_aload_n hx hb dX7_keepRefusal_0 rfl (lv_at hl 1 rfl) ?_
  refine va_gets (C := "CourierBags$Fault") (n := "REFUSED") (d := "LCourierBags$Fault;") (v := .ref (X 0 5)) hx hb (hE.fault 5 (by decide)) (S_weak hS0 hAB) hown (hts _ kw_473) (fun _ h9 => h9) dX7_keepRefusal_1 ?_
  by_cases hk5 : k = 5
  · skip
    refine lv_acmp_ne (rx := some (X 0 k)) (ry := some (X 0 5)) (tgt := 32) hx hb dX7_keepRefusal_4 (by decide) (fun h9 => absurd (by rw [hk5]) h9) (fun _ => ?_)
    refine lv_aload_n hx hb dX7_keepRefusal_7 rfl (lv_at hl 0 rfl) ?_
    refine lv_aload_n hx hb dX7_keepRefusal_8 rfl (lv_at hl 0 rfl) ?_
    refine va_get (D := D) (ci := 8) (v := .ref (ad.1 0 0)) (C := RX7) (T := TX7) (N := 12) hx hb hts i_X7 hown hK (P_blk hP (i := 0) rfl) 0 rfl rfl 0 (by decide) (hts _ kw_228) (fun _ h9 => h9) rfl dX7_keepRefusal_9 ?_
    refine lv_aload_n hx hb dX7_keepRefusal_12 rfl (lv_at hl 0 rfl) ?_
    refine va_get (D := D) (ci := 8) (v := .ref (ad.1 0 0)) (C := RX7) (T := TX7) (N := 12) hx hb hts i_X7 hown hK (P_blk hP (i := 0) rfl) 0 rfl rfl 0 (by decide) (hts _ kw_228) (fun _ h9 => h9) rfl dX7_keepRefusal_13 ?_
    refine lv_iload_n hx hb dX7_keepRefusal_16 rfl (lv_at hl 2 rfl) ?_
    have hPc : va_P D vwCl (cw G (ad.1 0) c0) s.heap := P_blk hP (i := 1) rfl
    refine va_csr (va_runV (As := [.int i]) (rest := [.ref (ad.1 0 0), .ref (ad.1 3 0)]) ⟨hx, hb, hml, hown, hts⟩ (c_X1_find l D G (ad.1 0) c0 i) (cwV 1 hts gw_X7_162 rfl rfl rfl (by decide +kernel) ⟨Nat.le_of_ble_eq_true rfl, Nat.le_of_ble_eq_true rfl⟩) (pv_cw hK hPc) rfl rfl hl.1 rfl (lv_room (Nat.le_of_ble_eq_true rfl)) dX7_keepRefusal_17 ⟨Nat.le_of_ble_eq_true rfl, Nat.le_of_ble_eq_true rfl⟩).run (nm_e ?_)
    refine lv_iload_n hx hb dX7_keepRefusal_20 rfl (lv_at hl 3 rfl) ?_
    have hPc : va_P D vwCl (cw G (ad.1 0) c0) s.heap := P_blk hP (i := 1) rfl
    refine vp_callSi (va_runV (As := [.ref (ad.1 0 (3 + (s_find c0 i))), .int b]) (rest := [.ref (ad.1 3 0)]) ⟨hx, hb, hml, hown, hts⟩ (c_X1_refusal l D G (ad.1 0) c0 (s_find c0 i) (s_find_lt c0 i) b) (cwV 2 hts gw_X7_375 rfl rfl rfl (by decide +kernel) ⟨Nat.le_of_ble_eq_true rfl, Nat.le_of_ble_eq_true rfl⟩) (pv_cw hK hPc) rfl rfl hl.1 rfl (lv_room (Nat.le_of_ble_eq_true rfl)) dX7_keepRefusal_21 ⟨Nat.le_of_ble_eq_true rfl, Nat.le_of_ble_eq_true rfl⟩).run (nm_e ?_)
    refine va_put (D := D) (ci := 8) (v := .int (s_refusal c0 (s_find c0 i) b)) (ty := .int) (C := RX7) (T := TX7) (N := 12) hx hb hts i_X7 tyX7 tyX7_ok nmX7 hown hK hP hD hS0 0 rfl rfl 8 (by decide) (hts _ kw_236) (fun _ h9 => h9) rfl (by decide +kernel) rfl rfl (Nat.le_of_ble_eq_true rfl) dX7_keepRefusal_24 (fun H locs hP hD hS0 => ?_)
    have hP : va_P D vwCl (CBL G X ad c0 c1 c2 hS hn sv lv bs (upd fl 1 (s_refusal c0 (s_find c0 i) b))).flatten H := hP
    have hD : va_D A (CBL G X ad c0 c1 c2 hS hn sv lv bs (upd fl 1 (s_refusal c0 (s_find c0 i) b))).flatten := hD
    refine lv_aload_n hx hb dX7_keepRefusal_27 rfl (lv_at hl 0 rfl) ?_
    refine lv_iload_n hx hb dX7_keepRefusal_28 rfl (lv_at hl 2 rfl) ?_
    refine va_put (D := D) (ci := 8) (v := .int i) (ty := .int) (C := RX7) (T := TX7) (N := 12) hx hb hts i_X7 tyX7 tyX7_ok nmX7 hown hK hP hD hS0 0 rfl rfl 9 (by decide) (hts _ kw_237) (fun _ h9 => h9) rfl (by decide +kernel) rfl rfl (Nat.le_of_ble_eq_true rfl) dX7_keepRefusal_29 (fun H locs hP hD hS0 => ?_)
    have hP : va_P D vwCl (CBL G X ad c0 c1 c2 hS hn sv lv bs (upd (upd fl 1 (s_refusal c0 (s_find c0 i) b)) 2 i)).flatten H := hP
    have hD : va_D A (CBL G X ad c0 c1 c2 hS hn sv lv bs (upd (upd fl 1 (s_refusal c0 (s_find c0 i) b)) 2 i)).flatten := hD
    refine W.widen (k := 0) (n := 0) (Nat.le_of_ble_eq_true rfl) (Nat.le_of_ble_eq_true rfl) ?_
    have hP9 : va_P D vwCl (CBL G X ad c0 c1 c2 hS hn sv lv bs (m_keep c0 fl k i b)).flatten H := by rw [m_keep, if_pos hk5]; exact hP
    have hD9 : va_D A (CBL G X ad c0 c1 c2 hS hn sv lv bs (m_keep c0 fl k i b)).flatten := by rw [m_keep, if_pos hk5]; exact hD
    exact (W.vret hx hb hr (fun t ht hW => ⟨⟨(), rfl, trivial, by rw [ht]; exact hP9, hD9⟩, hS0.F ht⟩) hS0.2.2 dX7_keepRefusal_32)
  · skip
    refine lv_acmp_ne (rx := some (X 0 k)) (ry := some (X 0 5)) (tgt := 32) hx hb dX7_keepRefusal_4 (by decide) (fun _ => ?_) (fun h9 => absurd (hE.faultNe (i := k) (j := 5) hk (by decide) (Option.some.inj h9)) hk5)
    refine W.widen (k := 0) (n := 0) (Nat.le_of_ble_eq_true rfl) (Nat.le_of_ble_eq_true rfl) ?_
    have hP9 : va_P D vwCl (CBL G X ad c0 c1 c2 hS hn sv lv bs (m_keep c0 fl k i b)).flatten s.heap := by rw [m_keep, if_neg hk5]; exact hP
    have hD9 : va_D A (CBL G X ad c0 c1 c2 hS hn sv lv bs (m_keep c0 fl k i b)).flatten := by rw [m_keep, if_neg hk5]; exact hD
    exact (W.vret hx hb hr (fun t ht hW => ⟨⟨(), rfl, trivial, by rw [ht]; exact hP9, hD9⟩, hS0.F ht⟩) hS0.2.2 dX7_keepRefusal_32)
