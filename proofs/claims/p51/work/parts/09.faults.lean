/-! WHICH FAULT: by its place among the constants -/
def f_open (st : CS) (x : Int32) : Nat := if x < 1 then 1 else if x ≤ 99 then (if st.2.2 1 < 3 then 0 else 4) else 1
def f_takeIn (st : CS) (z w v : Int32) : Nat := if z < 1 then 1 else if 10 < z then 1 else if w < 1 then 1 else if 20 < w then 1 else if v < 1 then 1 else if v ≤ 30 then (if s_countItems st < 12 then 0 else 4) else 1
def f_drop (st : CS) (id : Int32) : Nat := if p_there (itm st (s_find st id)) = true then (if p_inbag (itm st (s_find st id)) = true then 4 else 0) else 2
def f_load (st : CS) (id b : Int32) : Nat := if p_there (itm st (s_find st id)) = true then (if s_hasBag st b = true then (if p_inbag (itm st (s_find st id)) = true then 4 else if s_refusal st (s_find st id) b = 0 then 0 else 5) else 3) else 2
def f_unload (st : CS) (id : Int32) : Nat := if p_there (itm st (s_find st id)) = true then (if p_inbag (itm st (s_find st id)) = true then (if itm st (s_find st id) 6 = s_countLayers st (itm st (s_find st id) 5) - 1 then 0 else 4) else 4) else 2
def f_fill (st : CS) (b : Int32) : Nat := if s_hasBag st b = true then 0 else 3
def f_handOver (st : CS) : Nat := if s_hasPacked st = true then 0 else 4
theorem gw_X1_96 : GoodIn tb (wsV RX1 96 RX1 yX1_hasBag (wA yX1_hasBag cX1_hasBag 2 (some .boolean))) := gV kw_608 kw_609 kw_610 kw_25 kw_611
theorem gw_X1_130 : GoodIn tb (wsV RX1 130 RX1 yX1_hasPackedItem (wA yX1_hasPackedItem cX1_hasPackedItem 1 (some .boolean))) := gV kw_680 kw_681 kw_682 kw_25 kw_683
set_option maxRecDepth 100000 in
set_option maxHeartbeats 4000000 in
theorem c_X1_openFault (l : Launch) (D : va_G) (G : GA) (B0 : Nat) (X : Nat → Nat → Nat) (a : Nat → Nat) (st : CS) (x : Int32) : Met l yX1_openFault (wA yX1_openFault cX1_openFault 2 (some (.object "CourierBags$Fault"))) ({ frames := 0, cells := 0, slots := 0, locals := 0 } : Room) (va_Pc [.ref (a 0), .int x] (CEp D G a st B0 X)) (va_Sr (fun k => k = f_open st x) (fun k => .ref (X 0 k))) 0 0 (fun _ => False) := by
  refine Met.ofW (cc := cX1_openFault) (maxL := 2) (ret := (some (.object "CourierBags$Fault"))) (by decide) rfl ?_
  intro p e s m args below meth c s₁ B hml hv
  obtain ⟨rfl, hP, hK, hE⟩ := hv
  have hx := B.exec
  have hb := B.bytes
  have hr := B.returns
  have hts : ∀ w9 ∈ tb, w9.before ([.ref (a 0), .int x] : List Value).toArray s = true := fun w9 h9 => atoms_spec (ws := (wA yX1_openFault cX1_openFault 2 (some (.object "CourierBags$Fault")))) B.pre w9 (List.mem_cons_of_mem _ h9)
  have hown : s.vm.findClass RX1 = some m.cls := findClass_of_methodNamed B.named
  have hlocks := B.notSynchronized
  have hl := lv_entry ([.ref (a 0), .int x]) (n := 2) (Nat.le_of_ble_eq_true rfl)
  rw [lg_entry_eq]
  generalize (lg_sl ([.ref (a 0), .int x]) ++ List.replicate (2 - (lg_sl ([.ref (a 0), .int x])).length) Slot.unset).toArray = ls at hl ⊢
  have hl : lv_has ls 2 [(0, .ref (a 0)), (1, .int x)] := hl
  refine lv_iload_n hx hb dX1_openFault_0 rfl (lv_at hl 1 rfl) ?_
  refine lv_iconst (v := 1) hx hb dX1_openFault_1 (by decide) ?_
  refine lv_icmp_lt (tgt := 11) hx hb dX1_openFault_2 (by decide) (fun c_1 => ?_) (fun c_1 => ?_)
  · skip
    refine va_gets (C := "CourierBags$Fault") (n := "OUT_OF_RANGE") (d := "LCourierBags$Fault;") (v := .ref (X 0 1)) hx hb (hE.fault 1 (by decide)) va_S.rf hown (hts _ kw_338) (fun _ h9 => h9) dX1_openFault_11 ?_
    exact W.aret (v := .ref (X 0 1)) hx hb hr (Or.inl ⟨_, rfl⟩) (Or.inr ⟨_, rfl⟩) (fun t ht hW => ⟨1, rfl, (by simp only [f_open, if_pos c_1] <;> rfl), ht⟩) (fun q h => absurd h List.not_mem_nil) dX1_openFault_14
  · skip
    refine lv_iload_n hx hb dX1_openFault_5 rfl (lv_at hl 1 rfl) ?_
    refine lv_bipush (v := 99) hx hb dX1_openFault_6 (by decide) ?_
    refine lv_icmp_le (tgt := 15) hx hb dX1_openFault_8 (by decide) (fun c_2 => ?_) (fun c_2 => ?_)
    · skip
      refine lv_aload_n hx hb dX1_openFault_15 rfl (lv_at hl 0 rfl) ?_
      refine va_get (D := D) (ci := 4) (v := .int (st.2.2 1)) (C := RX1) (T := TX1) (N := 7) hx hb hts i_X1 hown hK hP 0 rfl rfl 4 (by decide) (hts _ kw_122) (fun _ h9 => h9) rfl dX1_openFault_16 ?_
      refine lv_iconst (v := 3) hx hb dX1_openFault_19 (by decide) ?_
      refine lv_icmp_lt (tgt := 29) hx hb dX1_openFault_20 (by decide) (fun c_3 => ?_) (fun c_3 => ?_)
      · skip
        refine va_gets (C := "CourierBags$Fault") (n := "NONE") (d := "LCourierBags$Fault;") (v := .ref (X 0 0)) hx hb (hE.fault 0 (by decide)) va_S.rf hown (hts _ kw_342) (fun _ h9 => h9) dX1_openFault_29 ?_
        exact W.aret (v := .ref (X 0 0)) hx hb hr (Or.inl ⟨_, rfl⟩) (Or.inr ⟨_, rfl⟩) (fun t ht hW => ⟨0, rfl, (by simp only [f_open, if_neg c_1, if_pos c_2, if_pos c_3] <;> rfl), ht⟩) (fun q h => absurd h List.not_mem_nil) dX1_openFault_32
      · skip
        refine va_gets (C := "CourierBags$Fault") (n := "WRONG_STATE") (d := "LCourierBags$Fault;") (v := .ref (X 0 4)) hx hb (hE.fault 4 (by decide)) va_S.rf hown (hts _ kw_340) (fun _ h9 => h9) dX1_openFault_23 ?_
        refine lv_goto (tgt := 32) hx hb dX1_openFault_26 (by decide) ?_
        exact W.aret (v := .ref (X 0 4)) hx hb hr (Or.inl ⟨_, rfl⟩) (Or.inr ⟨_, rfl⟩) (fun t ht hW => ⟨4, rfl, (by simp only [f_open, if_neg c_1, if_pos c_2, if_neg c_3] <;> rfl), ht⟩) (fun q h => absurd h List.not_mem_nil) dX1_openFault_32
    · skip
      refine va_gets (C := "CourierBags$Fault") (n := "OUT_OF_RANGE") (d := "LCourierBags$Fault;") (v := .ref (X 0 1)) hx hb (hE.fault 1 (by decide)) va_S.rf hown (hts _ kw_338) (fun _ h9 => h9) dX1_openFault_11 ?_
      exact W.aret (v := .ref (X 0 1)) hx hb hr (Or.inl ⟨_, rfl⟩) (Or.inr ⟨_, rfl⟩) (fun t ht hW => ⟨1, rfl, (by simp only [f_open, if_neg c_1, if_neg c_2] <;> rfl), ht⟩) (fun q h => absurd h List.not_mem_nil) dX1_openFault_14
set_option maxRecDepth 100000 in
set_option maxHeartbeats 4000000 in
theorem c_X1_takeInFault (l : Launch) (D : va_G) (G : GA) (B0 : Nat) (X : Nat → Nat → Nat) (a : Nat → Nat) (st : CS) (z : Int32) (w : Int32) (v : Int32) : Met l yX1_takeInFault (wA yX1_takeInFault cX1_takeInFault 4 (some (.object "CourierBags$Fault"))) ({ frames := 2, cells := 0, slots := 0, locals := 45 } : Room) (va_Pc [.ref (a 0), .int z, .int w, .int v] (CEp D G a st B0 X)) (va_Sr (fun k => k = f_takeIn st z w v) (fun k => .ref (X 0 k))) 0 0 (fun _ => False) := by
  refine Met.ofW (cc := cX1_takeInFault) (maxL := 4) (ret := (some (.object "CourierBags$Fault"))) (by decide) rfl ?_
  intro p e s m args below meth c s₁ B hml hv
  obtain ⟨rfl, hP, hK, hE⟩ := hv
  have hx := B.exec
  have hb := B.bytes
  have hr := B.returns
  have hts : ∀ w9 ∈ tb, w9.before ([.ref (a 0), .int z, .int w, .int v] : List Value).toArray s = true := fun w9 h9 => atoms_spec (ws := (wA yX1_takeInFault cX1_takeInFault 4 (some (.object "CourierBags$Fault")))) B.pre w9 (List.mem_cons_of_mem _ h9)
  have hown : s.vm.findClass RX1 = some m.cls := findClass_of_methodNamed B.named
  have hlocks := B.notSynchronized
  have hl := lv_entry ([.ref (a 0), .int z, .int w, .int v]) (n := 4) (Nat.le_of_ble_eq_true rfl)
  rw [lg_entry_eq]
  generalize (lg_sl ([.ref (a 0), .int z, .int w, .int v]) ++ List.replicate (4 - (lg_sl ([.ref (a 0), .int z, .int w, .int v])).length) Slot.unset).toArray = ls at hl ⊢
  have hl : lv_has ls 4 [(0, .ref (a 0)), (1, .int z), (2, .int w), (3, .int v)] := hl
  refine lv_iload_n hx hb dX1_takeInFault_0 rfl (lv_at hl 1 rfl) ?_
  refine lv_iconst (v := 1) hx hb dX1_takeInFault_1 (by decide) ?_
  refine lv_icmp_lt (tgt := 33) hx hb dX1_takeInFault_2 (by decide) (fun c_1 => ?_) (fun c_1 => ?_)
  · skip
    refine va_gets (C := "CourierBags$Fault") (n := "OUT_OF_RANGE") (d := "LCourierBags$Fault;") (v := .ref (X 0 1)) hx hb (hE.fault 1 (by decide)) va_S.rf hown (hts _ kw_338) (fun _ h9 => h9) dX1_takeInFault_33 ?_
    exact W.aret (v := .ref (X 0 1)) hx hb hr (Or.inl ⟨_, rfl⟩) (Or.inr ⟨_, rfl⟩) (fun t ht hW => ⟨1, rfl, (by simp only [f_takeIn, if_pos c_1] <;> rfl), ht⟩) (fun q h => absurd h List.not_mem_nil) dX1_takeInFault_36
  · skip
    refine lv_iload_n hx hb dX1_takeInFault_5 rfl (lv_at hl 1 rfl) ?_
    refine lv_bipush (v := 10) hx hb dX1_takeInFault_6 (by decide) ?_
    refine lv_icmp_gt (tgt := 33) hx hb dX1_takeInFault_8 (by decide) (fun c_2 => ?_) (fun c_2 => ?_)
    · skip
      refine va_gets (C := "CourierBags$Fault") (n := "OUT_OF_RANGE") (d := "LCourierBags$Fault;") (v := .ref (X 0 1)) hx hb (hE.fault 1 (by decide)) va_S.rf hown (hts _ kw_338) (fun _ h9 => h9) dX1_takeInFault_33 ?_
      exact W.aret (v := .ref (X 0 1)) hx hb hr (Or.inl ⟨_, rfl⟩) (Or.inr ⟨_, rfl⟩) (fun t ht hW => ⟨1, rfl, (by simp only [f_takeIn, if_neg c_1, if_pos c_2] <;> rfl), ht⟩) (fun q h => absurd h List.not_mem_nil) dX1_takeInFault_36
    · skip
      refine lv_iload_n hx hb dX1_takeInFault_11 rfl (lv_at hl 2 rfl) ?_
      refine lv_iconst (v := 1) hx hb dX1_takeInFault_12 (by decide) ?_
      refine lv_icmp_lt (tgt := 33) hx hb dX1_takeInFault_13 (by decide) (fun c_3 => ?_) (fun c_3 => ?_)
      · skip
        refine va_gets (C := "CourierBags$Fault") (n := "OUT_OF_RANGE") (d := "LCourierBags$Fault;") (v := .ref (X 0 1)) hx hb (hE.fault 1 (by decide)) va_S.rf hown (hts _ kw_338) (fun _ h9 => h9) dX1_takeInFault_33 ?_
        exact W.aret (v := .ref (X 0 1)) hx hb hr (Or.inl ⟨_, rfl⟩) (Or.inr ⟨_, rfl⟩) (fun t ht hW => ⟨1, rfl, (by simp only [f_takeIn, if_neg c_1, if_neg c_2, if_pos c_3] <;> rfl), ht⟩) (fun q h => absurd h List.not_mem_nil) dX1_takeInFault_36
      · skip
        refine lv_iload_n hx hb dX1_takeInFault_16 rfl (lv_at hl 2 rfl) ?_
        refine lv_bipush (v := 20) hx hb dX1_takeInFault_17 (by decide) ?_
        refine lv_icmp_gt (tgt := 33) hx hb dX1_takeInFault_19 (by decide) (fun c_4 => ?_) (fun c_4 => ?_)
        · skip
          refine va_gets (C := "CourierBags$Fault") (n := "OUT_OF_RANGE") (d := "LCourierBags$Fault;") (v := .ref (X 0 1)) hx hb (hE.fault 1 (by decide)) va_S.rf hown (hts _ kw_338) (fun _ h9 => h9) dX1_takeInFault_33 ?_
          exact W.aret (v := .ref (X 0 1)) hx hb hr (Or.inl ⟨_, rfl⟩) (Or.inr ⟨_, rfl⟩) (fun t ht hW => ⟨1, rfl, (by simp only [f_takeIn, if_neg c_1, if_neg c_2, if_neg c_3, if_pos c_4] <;> rfl), ht⟩) (fun q h => absurd h List.not_mem_nil) dX1_takeInFault_36
        · skip
          refine lv_iload_n hx hb dX1_takeInFault_22 rfl (lv_at hl 3 rfl) ?_
          refine lv_iconst (v := 1) hx hb dX1_takeInFault_23 (by decide) ?_
          refine lv_icmp_lt (tgt := 33) hx hb dX1_takeInFault_24 (by decide) (fun c_5 => ?_) (fun c_5 => ?_)
          · skip
            refine va_gets (C := "CourierBags$Fault") (n := "OUT_OF_RANGE") (d := "LCourierBags$Fault;") (v := .ref (X 0 1)) hx hb (hE.fault 1 (by decide)) va_S.rf hown (hts _ kw_338) (fun _ h9 => h9) dX1_takeInFault_33 ?_
            exact W.aret (v := .ref (X 0 1)) hx hb hr (Or.inl ⟨_, rfl⟩) (Or.inr ⟨_, rfl⟩) (fun t ht hW => ⟨1, rfl, (by simp only [f_takeIn, if_neg c_1, if_neg c_2, if_neg c_3, if_neg c_4, if_pos c_5] <;> rfl), ht⟩) (fun q h => absurd h List.not_mem_nil) dX1_takeInFault_36
          · skip
            refine lv_iload_n hx hb dX1_takeInFault_27 rfl (lv_at hl 3 rfl) ?_
            refine lv_bipush (v := 30) hx hb dX1_takeInFault_28 (by decide) ?_
            refine lv_icmp_le (tgt := 37) hx hb dX1_takeInFault_30 (by decide) (fun c_6 => ?_) (fun c_6 => ?_)
            · skip
              refine lv_aload_n hx hb dX1_takeInFault_37 rfl (lv_at hl 0 rfl) ?_
              refine vp_callSi (va_runV (As := []) (rest := []) ⟨hx, hb, hml, hown, hts⟩ (c_X1_countItems l D G a st) (cwV 0 hts gw_X1_55 rfl rfl rfl (by decide +kernel) ⟨Nat.le_of_ble_eq_true rfl, Nat.le_of_ble_eq_true rfl⟩) (pv_cw hK hP) rfl rfl hl.1 rfl (lv_room (Nat.le_of_ble_eq_true rfl)) dX1_takeInFault_38 ⟨Nat.le_of_ble_eq_true rfl, Nat.le_of_ble_eq_true rfl⟩).run (nm_e ?_)
              refine lv_bipush (v := 12) hx hb dX1_takeInFault_41 (by decide) ?_
              refine lv_icmp_lt (tgt := 52) hx hb dX1_takeInFault_43 (by decide) (fun c_7 => ?_) (fun c_7 => ?_)
              · skip
                refine va_gets (C := "CourierBags$Fault") (n := "NONE") (d := "LCourierBags$Fault;") (v := .ref (X 0 0)) hx hb (hE.fault 0 (by decide)) va_S.rf hown (hts _ kw_342) (fun _ h9 => h9) dX1_takeInFault_52 ?_
                exact W.aret (v := .ref (X 0 0)) hx hb hr (Or.inl ⟨_, rfl⟩) (Or.inr ⟨_, rfl⟩) (fun t ht hW => ⟨0, rfl, (by simp only [f_takeIn, if_neg c_1, if_neg c_2, if_neg c_3, if_neg c_4, if_neg c_5, if_pos c_6, if_pos c_7] <;> rfl), ht⟩) (fun q h => absurd h List.not_mem_nil) dX1_takeInFault_55
              · skip
                refine va_gets (C := "CourierBags$Fault") (n := "WRONG_STATE") (d := "LCourierBags$Fault;") (v := .ref (X 0 4)) hx hb (hE.fault 4 (by decide)) va_S.rf hown (hts _ kw_340) (fun _ h9 => h9) dX1_takeInFault_46 ?_
                refine lv_goto (tgt := 55) hx hb dX1_takeInFault_49 (by decide) ?_
                exact W.aret (v := .ref (X 0 4)) hx hb hr (Or.inl ⟨_, rfl⟩) (Or.inr ⟨_, rfl⟩) (fun t ht hW => ⟨4, rfl, (by simp only [f_takeIn, if_neg c_1, if_neg c_2, if_neg c_3, if_neg c_4, if_neg c_5, if_pos c_6, if_neg c_7] <;> rfl), ht⟩) (fun q h => absurd h List.not_mem_nil) dX1_takeInFault_55
            · skip
              refine va_gets (C := "CourierBags$Fault") (n := "OUT_OF_RANGE") (d := "LCourierBags$Fault;") (v := .ref (X 0 1)) hx hb (hE.fault 1 (by decide)) va_S.rf hown (hts _ kw_338) (fun _ h9 => h9) dX1_takeInFault_33 ?_
              exact W.aret (v := .ref (X 0 1)) hx hb hr (Or.inl ⟨_, rfl⟩) (Or.inr ⟨_, rfl⟩) (fun t ht hW => ⟨1, rfl, (by simp only [f_takeIn, if_neg c_1, if_neg c_2, if_neg c_3, if_neg c_4, if_neg c_5, if_neg c_6] <;> rfl), ht⟩) (fun q h => absurd h List.not_mem_nil) dX1_takeInFault_36
set_option maxRecDepth 100000 in
set_option maxHeartbeats 4000000 in
theorem c_X1_dropFault (l : Launch) (D : va_G) (G : GA) (B0 : Nat) (X : Nat → Nat → Nat) (a : Nat → Nat) (st : CS) (id : Int32) : Met l yX1_dropFault (wA yX1_dropFault cX1_dropFault 3 (some (.object "CourierBags$Fault"))) ({ frames := 2, cells := 0, slots := 0, locals := 45 } : Room) (va_Pc [.ref (a 0), .int id] (CEp D G a st B0 X)) (va_Sr (fun k => k = f_drop st id) (fun k => .ref (X 0 k))) 0 0 (fun _ => False) := by
  refine Met.ofW (cc := cX1_dropFault) (maxL := 3) (ret := (some (.object "CourierBags$Fault"))) (by decide) rfl ?_
  intro p e s m args below meth c s₁ B hml hv
  obtain ⟨rfl, hP, hK, hE⟩ := hv
  have hx := B.exec
  have hb := B.bytes
  have hr := B.returns
  have hts : ∀ w9 ∈ tb, w9.before ([.ref (a 0), .int id] : List Value).toArray s = true := fun w9 h9 => atoms_spec (ws := (wA yX1_dropFault cX1_dropFault 3 (some (.object "CourierBags$Fault")))) B.pre w9 (List.mem_cons_of_mem _ h9)
  have hown : s.vm.findClass RX1 = some m.cls := findClass_of_methodNamed B.named
  have hlocks := B.notSynchronized
  have hl := lv_entry ([.ref (a 0), .int id]) (n := 3) (Nat.le_of_ble_eq_true rfl)
  rw [lg_entry_eq]
  generalize (lg_sl ([.ref (a 0), .int id]) ++ List.replicate (3 - (lg_sl ([.ref (a 0), .int id])).length) Slot.unset).toArray = ls at hl ⊢
  have hl : lv_has ls 3 [(0, .ref (a 0)), (1, .int id)] := hl
  refine lv_aload_n hx hb dX1_dropFault_0 rfl (lv_at hl 0 rfl) ?_
  refine lv_iload_n hx hb dX1_dropFault_1 rfl (lv_at hl 1 rfl) ?_
  refine va_csr (va_runV (As := [.int id]) (rest := []) ⟨hx, hb, hml, hown, hts⟩ (c_X1_find l D G a st id) (cwV 1 hts gw_X1_82 rfl rfl rfl (by decide +kernel) ⟨Nat.le_of_ble_eq_true rfl, Nat.le_of_ble_eq_true rfl⟩) (pv_cw hK hP) rfl rfl hl.1 rfl (lv_room (Nat.le_of_ble_eq_true rfl)) dX1_dropFault_2 ⟨Nat.le_of_ble_eq_true rfl, Nat.le_of_ble_eq_true rfl⟩).run (nm_e ?_)
  refine lv_astore_n (x := (a (3 + (s_find st id)))) (lv' := [(2, .ref (a (3 + (s_find st id)))), (0, .ref (a 0)), (1, .int id)]) hx hb dX1_dropFault_5 rfl hl (by decide) rfl (fun ls hl => ?_)
  refine lv_aload_n hx hb dX1_dropFault_6 rfl (lv_at hl 0 rfl) ?_
  refine vp_callSi (va_runV (As := []) (rest := []) ⟨hx, hb, hml, hown, hts⟩ (c_X4_isThere l D G (a (3 + (s_find st id))) (itm st (s_find st id))) (cwV 0 hts gw_X1_86 rfl rfl rfl (by decide +kernel) ⟨Nat.le_of_ble_eq_true rfl, Nat.le_of_ble_eq_true rfl⟩) (pv_it hK hP (cw_it G a st (s_find_lt st id))) rfl rfl hl.1 rfl (lv_room (Nat.le_of_ble_eq_true rfl)) dX1_dropFault_7 ⟨Nat.le_of_ble_eq_true rfl, Nat.le_of_ble_eq_true rfl⟩).run (nm_e ?_)
  cases hb_1 : p_there (itm st (s_find st id))
  case true =>
    refine lv_if_ne (tgt := 17) hx hb dX1_dropFault_10 (by decide) (fun _ => ?_) (fun c_2 => absurd c_2 (by decide))
    refine lv_aload_n hx hb dX1_dropFault_17 rfl (lv_at hl 0 rfl) ?_
    refine vp_callSi (va_runV (As := []) (rest := []) ⟨hx, hb, hml, hown, hts⟩ (c_X4_isInBag l D G (a (3 + (s_find st id))) (itm st (s_find st id))) (cwV 0 hts gw_X1_93 rfl rfl rfl (by decide +kernel) ⟨Nat.le_of_ble_eq_true rfl, Nat.le_of_ble_eq_true rfl⟩) (pv_it hK hP (cw_it G a st (s_find_lt st id))) rfl rfl hl.1 rfl (lv_room (Nat.le_of_ble_eq_true rfl)) dX1_dropFault_18 ⟨Nat.le_of_ble_eq_true rfl, Nat.le_of_ble_eq_true rfl⟩).run (nm_e ?_)
    cases hb_3 : p_inbag (itm st (s_find st id))
    case true =>
      refine lv_if_eq (tgt := 30) hx hb dX1_dropFault_21 (by decide) (fun c_4 => absurd c_4 (by decide)) (fun _ => ?_)
      refine va_gets (C := "CourierBags$Fault") (n := "WRONG_STATE") (d := "LCourierBags$Fault;") (v := .ref (X 0 4)) hx hb (hE.fault 4 (by decide)) va_S.rf hown (hts _ kw_340) (fun _ h9 => h9) dX1_dropFault_24 ?_
      refine lv_goto (tgt := 33) hx hb dX1_dropFault_27 (by decide) ?_
      exact W.aret (v := .ref (X 0 4)) hx hb hr (Or.inl ⟨_, rfl⟩) (Or.inr ⟨_, rfl⟩) (fun t ht hW => ⟨4, rfl, (by simp only [f_drop, if_pos hb_1, if_pos hb_3] <;> rfl), ht⟩) (fun q h => absurd h List.not_mem_nil) dX1_dropFault_33
    case false =>
      refine lv_if_eq (tgt := 30) hx hb dX1_dropFault_21 (by decide) (fun _ => ?_) (fun c_5 => absurd (by decide) c_5)
      refine va_gets (C := "CourierBags$Fault") (n := "NONE") (d := "LCourierBags$Fault;") (v := .ref (X 0 0)) hx hb (hE.fault 0 (by decide)) va_S.rf hown (hts _ kw_342) (fun _ h9 => h9) dX1_dropFault_30 ?_
      exact W.aret (v := .ref (X 0 0)) hx hb hr (Or.inl ⟨_, rfl⟩) (Or.inr ⟨_, rfl⟩) (fun t ht hW => ⟨0, rfl, (by simp only [f_drop, if_pos hb_1, if_neg (bf hb_3)] <;> rfl), ht⟩) (fun q h => absurd h List.not_mem_nil) dX1_dropFault_33
  case false =>
    refine lv_if_ne (tgt := 17) hx hb dX1_dropFault_10 (by decide) (fun c_6 => absurd (by decide) c_6) (fun _ => ?_)
    refine va_gets (C := "CourierBags$Fault") (n := "NO_SUCH_ITEM") (d := "LCourierBags$Fault;") (v := .ref (X 0 2)) hx hb (hE.fault 2 (by decide)) va_S.rf hown (hts _ kw_537) (fun _ h9 => h9) dX1_dropFault_13 ?_
    exact W.aret (v := .ref (X 0 2)) hx hb hr (Or.inl ⟨_, rfl⟩) (Or.inr ⟨_, rfl⟩) (fun t ht hW => ⟨2, rfl, (by simp only [f_drop, if_neg (bf hb_1)] <;> rfl), ht⟩) (fun q h => absurd h List.not_mem_nil) dX1_dropFault_16
set_option maxRecDepth 100000 in
set_option maxHeartbeats 4000000 in
theorem c_X1_loadFault (l : Launch) (D : va_G) (G : GA) (B0 : Nat) (X : Nat → Nat → Nat) (a : Nat → Nat) (st : CS) (id : Int32) (b : Int32) : Met l yX1_loadFault (wA yX1_loadFault cX1_loadFault 4 (some (.object "CourierBags$Fault"))) ({ frames := 4, cells := 0, slots := 0, locals := 94 } : Room) (va_Pc [.ref (a 0), .int id, .int b] (CEp D G a st B0 X)) (va_Sr (fun k => k = f_load st id b) (fun k => .ref (X 0 k))) 0 0 (fun _ => False) := by
  refine Met.ofW (cc := cX1_loadFault) (maxL := 4) (ret := (some (.object "CourierBags$Fault"))) (by decide) rfl ?_
  intro p e s m args below meth c s₁ B hml hv
  obtain ⟨rfl, hP, hK, hE⟩ := hv
  have hx := B.exec
  have hb := B.bytes
  have hr := B.returns
  have hts : ∀ w9 ∈ tb, w9.before ([.ref (a 0), .int id, .int b] : List Value).toArray s = true := fun w9 h9 => atoms_spec (ws := (wA yX1_loadFault cX1_loadFault 4 (some (.object "CourierBags$Fault")))) B.pre w9 (List.mem_cons_of_mem _ h9)
  have hown : s.vm.findClass RX1 = some m.cls := findClass_of_methodNamed B.named
  have hlocks := B.notSynchronized
  have hl := lv_entry ([.ref (a 0), .int id, .int b]) (n := 4) (Nat.le_of_ble_eq_true rfl)
  rw [lg_entry_eq]
  generalize (lg_sl ([.ref (a 0), .int id, .int b]) ++ List.replicate (4 - (lg_sl ([.ref (a 0), .int id, .int b])).length) Slot.unset).toArray = ls at hl ⊢
  have hl : lv_has ls 4 [(0, .ref (a 0)), (1, .int id), (2, .int b)] := hl
  refine lv_aload_n hx hb dX1_loadFault_0 rfl (lv_at hl 0 rfl) ?_
  refine lv_iload_n hx hb dX1_loadFault_1 rfl (lv_at hl 1 rfl) ?_
  refine va_csr (va_runV (As := [.int id]) (rest := []) ⟨hx, hb, hml, hown, hts⟩ (c_X1_find l D G a st id) (cwV 1 hts gw_X1_82 rfl rfl rfl (by decide +kernel) ⟨Nat.le_of_ble_eq_true rfl, Nat.le_of_ble_eq_true rfl⟩) (pv_cw hK hP) rfl rfl hl.1 rfl (lv_room (Nat.le_of_ble_eq_true rfl)) dX1_loadFault_2 ⟨Nat.le_of_ble_eq_true rfl, Nat.le_of_ble_eq_true rfl⟩).run (nm_e ?_)
  refine lv_astore_n (x := (a (3 + (s_find st id)))) (lv' := [(3, .ref (a (3 + (s_find st id)))), (0, .ref (a 0)), (1, .int id), (2, .int b)]) hx hb dX1_loadFault_5 rfl hl (by decide) rfl (fun ls hl => ?_)
  refine lv_aload_n hx hb dX1_loadFault_6 rfl (lv_at hl 0 rfl) ?_
  refine vp_callSi (va_runV (As := []) (rest := []) ⟨hx, hb, hml, hown, hts⟩ (c_X4_isThere l D G (a (3 + (s_find st id))) (itm st (s_find st id))) (cwV 0 hts gw_X1_86 rfl rfl rfl (by decide +kernel) ⟨Nat.le_of_ble_eq_true rfl, Nat.le_of_ble_eq_true rfl⟩) (pv_it hK hP (cw_it G a st (s_find_lt st id))) rfl rfl hl.1 rfl (lv_room (Nat.le_of_ble_eq_true rfl)) dX1_loadFault_7 ⟨Nat.le_of_ble_eq_true rfl, Nat.le_of_ble_eq_true rfl⟩).run (nm_e ?_)
  cases hb_1 : p_there (itm st (s_find st id))
  case true =>
    refine lv_if_ne (tgt := 17) hx hb dX1_loadFault_10 (by decide) (fun _ => ?_) (fun c_2 => absurd c_2 (by decide))
    refine lv_aload_n hx hb dX1_loadFault_17 rfl (lv_at hl 1 rfl) ?_
    refine lv_iload_n hx hb dX1_loadFault_18 rfl (lv_at hl 3 rfl) ?_
    refine vp_callSi (va_runV (As := [.int b]) (rest := []) ⟨hx, hb, hml, hown, hts⟩ (c_X1_hasBag l D G a st b) (cwV 1 hts gw_X1_96 rfl rfl rfl (by decide +kernel) ⟨Nat.le_of_ble_eq_true rfl, Nat.le_of_ble_eq_true rfl⟩) (pv_cw hK hP) rfl rfl hl.1 rfl (lv_room (Nat.le_of_ble_eq_true rfl)) dX1_loadFault_19 ⟨Nat.le_of_ble_eq_true rfl, Nat.le_of_ble_eq_true rfl⟩).run (nm_e ?_)
    cases hb_3 : s_hasBag st b
    case true =>
      refine lv_if_ne (tgt := 29) hx hb dX1_loadFault_22 (by decide) (fun _ => ?_) (fun c_4 => absurd c_4 (by decide))
      refine lv_aload_n hx hb dX1_loadFault_29 rfl (lv_at hl 0 rfl) ?_
      refine vp_callSi (va_runV (As := []) (rest := []) ⟨hx, hb, hml, hown, hts⟩ (c_X4_isInBag l D G (a (3 + (s_find st id))) (itm st (s_find st id))) (cwV 0 hts gw_X1_93 rfl rfl rfl (by decide +kernel) ⟨Nat.le_of_ble_eq_true rfl, Nat.le_of_ble_eq_true rfl⟩) (pv_it hK hP (cw_it G a st (s_find_lt st id))) rfl rfl hl.1 rfl (lv_room (Nat.le_of_ble_eq_true rfl)) dX1_loadFault_30 ⟨Nat.le_of_ble_eq_true rfl, Nat.le_of_ble_eq_true rfl⟩).run (nm_e ?_)
      cases hb_5 : p_inbag (itm st (s_find st id))
      case true =>
        refine lv_if_eq (tgt := 40) hx hb dX1_loadFault_33 (by decide) (fun c_6 => absurd c_6 (by decide)) (fun _ => ?_)
        refine va_gets (C := "CourierBags$Fault") (n := "WRONG_STATE") (d := "LCourierBags$Fault;") (v := .ref (X 0 4)) hx hb (hE.fault 4 (by decide)) va_S.rf hown (hts _ kw_340) (fun _ h9 => h9) dX1_loadFault_36 ?_
        exact W.aret (v := .ref (X 0 4)) hx hb hr (Or.inl ⟨_, rfl⟩) (Or.inr ⟨_, rfl⟩) (fun t ht hW => ⟨4, rfl, (by simp only [f_load, if_pos hb_1, if_pos hb_3, if_pos hb_5] <;> rfl), ht⟩) (fun q h => absurd h List.not_mem_nil) dX1_loadFault_39
      case false =>
        refine lv_if_eq (tgt := 40) hx hb dX1_loadFault_33 (by decide) (fun _ => ?_) (fun c_7 => absurd (by decide) c_7)
        refine lv_aload_n hx hb dX1_loadFault_40 rfl (lv_at hl 1 rfl) ?_
        refine lv_aload_n hx hb dX1_loadFault_41 rfl (lv_at hl 0 rfl) ?_
        refine lv_iload_n hx hb dX1_loadFault_42 rfl (lv_at hl 3 rfl) ?_
        refine vp_callSi (va_runV (As := [.ref (a (3 + (s_find st id))), .int b]) (rest := []) ⟨hx, hb, hml, hown, hts⟩ (c_X1_refusal l D G a st (s_find st id) (s_find_lt st id) b) (cwV 2 hts gw_X1_103 rfl rfl rfl (by decide +kernel) ⟨Nat.le_of_ble_eq_true rfl, Nat.le_of_ble_eq_true rfl⟩) (pv_cw hK hP) rfl rfl hl.1 rfl (lv_room (Nat.le_of_ble_eq_true rfl)) dX1_loadFault_43 ⟨Nat.le_of_ble_eq_true rfl, Nat.le_of_ble_eq_true rfl⟩).run (nm_e ?_)
        refine lv_if_ne (tgt := 55) hx hb dX1_loadFault_46 (by decide) (fun c_8 => ?_) (fun c_8 => ?_)
        · skip
          refine va_gets (C := "CourierBags$Fault") (n := "REFUSED") (d := "LCourierBags$Fault;") (v := .ref (X 0 5)) hx hb (hE.fault 5 (by decide)) va_S.rf hown (hts _ kw_867) (fun _ h9 => h9) dX1_loadFault_55 ?_
          exact W.aret (v := .ref (X 0 5)) hx hb hr (Or.inl ⟨_, rfl⟩) (Or.inr ⟨_, rfl⟩) (fun t ht hW => ⟨5, rfl, (by simp only [f_load, if_pos hb_1, if_pos hb_3, if_neg (bf hb_5), if_neg c_8] <;> rfl), ht⟩) (fun q h => absurd h List.not_mem_nil) dX1_loadFault_58
        · skip
          refine va_gets (C := "CourierBags$Fault") (n := "NONE") (d := "LCourierBags$Fault;") (v := .ref (X 0 0)) hx hb (hE.fault 0 (by decide)) va_S.rf hown (hts _ kw_342) (fun _ h9 => h9) dX1_loadFault_49 ?_
          refine lv_goto (tgt := 58) hx hb dX1_loadFault_52 (by decide) ?_
          exact W.aret (v := .ref (X 0 0)) hx hb hr (Or.inl ⟨_, rfl⟩) (Or.inr ⟨_, rfl⟩) (fun t ht hW => ⟨0, rfl, (by simp only [f_load, if_pos hb_1, if_pos hb_3, if_neg (bf hb_5), if_pos c_8] <;> rfl), ht⟩) (fun q h => absurd h List.not_mem_nil) dX1_loadFault_58
    case false =>
      refine lv_if_ne (tgt := 29) hx hb dX1_loadFault_22 (by decide) (fun c_9 => absurd (by decide) c_9) (fun _ => ?_)
      refine va_gets (C := "CourierBags$Fault") (n := "NO_SUCH_BAG") (d := "LCourierBags$Fault;") (v := .ref (X 0 3)) hx hb (hE.fault 3 (by decide)) va_S.rf hown (hts _ kw_612) (fun _ h9 => h9) dX1_loadFault_25 ?_
      exact W.aret (v := .ref (X 0 3)) hx hb hr (Or.inl ⟨_, rfl⟩) (Or.inr ⟨_, rfl⟩) (fun t ht hW => ⟨3, rfl, (by simp only [f_load, if_pos hb_1, if_neg (bf hb_3)] <;> rfl), ht⟩) (fun q h => absurd h List.not_mem_nil) dX1_loadFault_28
  case false =>
    refine lv_if_ne (tgt := 17) hx hb dX1_loadFault_10 (by decide) (fun c_10 => absurd (by decide) c_10) (fun _ => ?_)
    refine va_gets (C := "CourierBags$Fault") (n := "NO_SUCH_ITEM") (d := "LCourierBags$Fault;") (v := .ref (X 0 2)) hx hb (hE.fault 2 (by decide)) va_S.rf hown (hts _ kw_537) (fun _ h9 => h9) dX1_loadFault_13 ?_
    exact W.aret (v := .ref (X 0 2)) hx hb hr (Or.inl ⟨_, rfl⟩) (Or.inr ⟨_, rfl⟩) (fun t ht hW => ⟨2, rfl, (by simp only [f_load, if_neg (bf hb_1)] <;> rfl), ht⟩) (fun q h => absurd h List.not_mem_nil) dX1_loadFault_16
set_option maxRecDepth 100000 in
set_option maxHeartbeats 4000000 in
theorem c_X1_unloadFault (l : Launch) (D : va_G) (G : GA) (B0 : Nat) (X : Nat → Nat → Nat) (a : Nat → Nat) (st : CS) (id : Int32) : Met l yX1_unloadFault (wA yX1_unloadFault cX1_unloadFault 4 (some (.object "CourierBags$Fault"))) ({ frames := 2, cells := 0, slots := 0, locals := 47 } : Room) (va_Pc [.ref (a 0), .int id] (CEp D G a st B0 X)) (va_Sr (fun k => k = f_unload st id) (fun k => .ref (X 0 k))) 0 0 (fun _ => False) := by
  refine Met.ofW (cc := cX1_unloadFault) (maxL := 4) (ret := (some (.object "CourierBags$Fault"))) (by decide) rfl ?_
  intro p e s m args below meth c s₁ B hml hv
  obtain ⟨rfl, hP, hK, hE⟩ := hv
  have hx := B.exec
  have hb := B.bytes
  have hr := B.returns
  have hts : ∀ w9 ∈ tb, w9.before ([.ref (a 0), .int id] : List Value).toArray s = true := fun w9 h9 => atoms_spec (ws := (wA yX1_unloadFault cX1_unloadFault 4 (some (.object "CourierBags$Fault")))) B.pre w9 (List.mem_cons_of_mem _ h9)
  have hown : s.vm.findClass RX1 = some m.cls := findClass_of_methodNamed B.named
  have hlocks := B.notSynchronized
  have hl := lv_entry ([.ref (a 0), .int id]) (n := 4) (Nat.le_of_ble_eq_true rfl)
  rw [lg_entry_eq]
  generalize (lg_sl ([.ref (a 0), .int id]) ++ List.replicate (4 - (lg_sl ([.ref (a 0), .int id])).length) Slot.unset).toArray = ls at hl ⊢
  have hl : lv_has ls 4 [(0, .ref (a 0)), (1, .int id)] := hl
  refine lv_aload_n hx hb dX1_unloadFault_0 rfl (lv_at hl 0 rfl) ?_
  refine lv_iload_n hx hb dX1_unloadFault_1 rfl (lv_at hl 1 rfl) ?_
  refine va_csr (va_runV (As := [.int id]) (rest := []) ⟨hx, hb, hml, hown, hts⟩ (c_X1_find l D G a st id) (cwV 1 hts gw_X1_82 rfl rfl rfl (by decide +kernel) ⟨Nat.le_of_ble_eq_true rfl, Nat.le_of_ble_eq_true rfl⟩) (pv_cw hK hP) rfl rfl hl.1 rfl (lv_room (Nat.le_of_ble_eq_true rfl)) dX1_unloadFault_2 ⟨Nat.le_of_ble_eq_true rfl, Nat.le_of_ble_eq_true rfl⟩).run (nm_e ?_)
  refine lv_astore_n (x := (a (3 + (s_find st id)))) (lv' := [(2, .ref (a (3 + (s_find st id)))), (0, .ref (a 0)), (1, .int id)]) hx hb dX1_unloadFault_5 rfl hl (by decide) rfl (fun ls hl => ?_)
  refine lv_aload_n hx hb dX1_unloadFault_6 rfl (lv_at hl 0 rfl) ?_
  refine vp_callSi (va_runV (As := []) (rest := []) ⟨hx, hb, hml, hown, hts⟩ (c_X4_isThere l D G (a (3 + (s_find st id))) (itm st (s_find st id))) (cwV 0 hts gw_X1_86 rfl rfl rfl (by decide +kernel) ⟨Nat.le_of_ble_eq_true rfl, Nat.le_of_ble_eq_true rfl⟩) (pv_it hK hP (cw_it G a st (s_find_lt st id))) rfl rfl hl.1 rfl (lv_room (Nat.le_of_ble_eq_true rfl)) dX1_unloadFault_7 ⟨Nat.le_of_ble_eq_true rfl, Nat.le_of_ble_eq_true rfl⟩).run (nm_e ?_)
  cases hb_1 : p_there (itm st (s_find st id))
  case true =>
    refine lv_if_ne (tgt := 17) hx hb dX1_unloadFault_10 (by decide) (fun _ => ?_) (fun c_2 => absurd c_2 (by decide))
    refine lv_aload_n hx hb dX1_unloadFault_17 rfl (lv_at hl 0 rfl) ?_
    refine vp_callSi (va_runV (As := []) (rest := []) ⟨hx, hb, hml, hown, hts⟩ (c_X4_isInBag l D G (a (3 + (s_find st id))) (itm st (s_find st id))) (cwV 0 hts gw_X1_93 rfl rfl rfl (by decide +kernel) ⟨Nat.le_of_ble_eq_true rfl, Nat.le_of_ble_eq_true rfl⟩) (pv_it hK hP (cw_it G a st (s_find_lt st id))) rfl rfl hl.1 rfl (lv_room (Nat.le_of_ble_eq_true rfl)) dX1_unloadFault_18 ⟨Nat.le_of_ble_eq_true rfl, Nat.le_of_ble_eq_true rfl⟩).run (nm_e ?_)
    cases hb_3 : p_inbag (itm st (s_find st id))
    case true =>
      refine lv_if_eq (tgt := 45) hx hb dX1_unloadFault_21 (by decide) (fun c_4 => absurd c_4 (by decide)) (fun _ => ?_)
      refine lv_aload_n hx hb dX1_unloadFault_24 rfl (lv_at hl 0 rfl) ?_
      refine va_get (D := D) (ci := 6) (v := .int (itm st (s_find st id) 6)) (C := RX4) (T := TX4) (N := 8) hx hb hts i_X4 hown hK hP (3 + (s_find st id)) (cw_it G a st (s_find_lt st id)) rfl 6 (by decide) (hts _ kw_97) (fun _ h9 => h9) rfl dX1_unloadFault_25 ?_
      refine lv_aload_n hx hb dX1_unloadFault_28 rfl (lv_at hl 1 rfl) ?_
      refine lv_aload_n hx hb dX1_unloadFault_29 rfl (lv_at hl 0 rfl) ?_
      refine va_get (D := D) (ci := 6) (v := .int (itm st (s_find st id) 5)) (C := RX4) (T := TX4) (N := 8) hx hb hts i_X4 hown hK hP (3 + (s_find st id)) (cw_it G a st (s_find_lt st id)) rfl 5 (by decide) (hts _ kw_94) (fun _ h9 => h9) rfl dX1_unloadFault_30 ?_
      refine vp_callSi (va_runV (As := [.int (itm st (s_find st id) 5)]) (rest := [.int (itm st (s_find st id) 6)]) ⟨hx, hb, hml, hown, hts⟩ (c_X1_countLayers l D G a st (itm st (s_find st id) 5)) (cwV 1 hts gw_X1_117 rfl rfl rfl (by decide +kernel) ⟨Nat.le_of_ble_eq_true rfl, Nat.le_of_ble_eq_true rfl⟩) (pv_cw hK hP) rfl rfl hl.1 rfl (lv_room (Nat.le_of_ble_eq_true rfl)) dX1_unloadFault_33 ⟨Nat.le_of_ble_eq_true rfl, Nat.le_of_ble_eq_true rfl⟩).run (nm_e ?_)
      refine lv_iconst (v := 1) hx hb dX1_unloadFault_36 (by decide) ?_
      refine lv_isub hx hb dX1_unloadFault_37 ?_
      refine lv_icmp_ne (tgt := 45) hx hb dX1_unloadFault_38 (by decide) (fun c_5 => ?_) (fun c_5 => ?_)
      · skip
        refine lv_iconst (v := 0) hx hb dX1_unloadFault_45 (by decide) ?_
        refine lv_istore_n (lv' := [(3, .int 0), (2, .ref (a (3 + (s_find st id)))), (0, .ref (a 0)), (1, .int id)]) hx hb dX1_unloadFault_46 rfl hl (by decide) rfl (fun ls hl => ?_)
        refine lv_iload_n hx hb dX1_unloadFault_47 rfl (lv_at hl 0 rfl) ?_
        refine lv_if_eq (tgt := 57) hx hb dX1_unloadFault_48 (by decide) (fun _ => ?_) (fun c_6 => absurd (by decide) c_6)
        refine va_gets (C := "CourierBags$Fault") (n := "WRONG_STATE") (d := "LCourierBags$Fault;") (v := .ref (X 0 4)) hx hb (hE.fault 4 (by decide)) va_S.rf hown (hts _ kw_340) (fun _ h9 => h9) dX1_unloadFault_57 ?_
        exact W.aret (v := .ref (X 0 4)) hx hb hr (Or.inl ⟨_, rfl⟩) (Or.inr ⟨_, rfl⟩) (fun t ht hW => ⟨4, rfl, (by simp only [f_unload, if_pos hb_1, if_pos hb_3, if_neg c_5] <;> rfl), ht⟩) (fun q h => absurd h List.not_mem_nil) dX1_unloadFault_60
      · skip
        refine lv_iconst (v := 1) hx hb dX1_unloadFault_41 (by decide) ?_
        refine lv_goto (tgt := 46) hx hb dX1_unloadFault_42 (by decide) ?_
        refine lv_istore_n (lv' := [(3, .int 1), (2, .ref (a (3 + (s_find st id)))), (0, .ref (a 0)), (1, .int id)]) hx hb dX1_unloadFault_46 rfl hl (by decide) rfl (fun ls hl => ?_)
        refine lv_iload_n hx hb dX1_unloadFault_47 rfl (lv_at hl 0 rfl) ?_
        refine lv_if_eq (tgt := 57) hx hb dX1_unloadFault_48 (by decide) (fun c_7 => absurd c_7 (by decide)) (fun _ => ?_)
        refine va_gets (C := "CourierBags$Fault") (n := "NONE") (d := "LCourierBags$Fault;") (v := .ref (X 0 0)) hx hb (hE.fault 0 (by decide)) va_S.rf hown (hts _ kw_342) (fun _ h9 => h9) dX1_unloadFault_51 ?_
        refine lv_goto (tgt := 60) hx hb dX1_unloadFault_54 (by decide) ?_
        exact W.aret (v := .ref (X 0 0)) hx hb hr (Or.inl ⟨_, rfl⟩) (Or.inr ⟨_, rfl⟩) (fun t ht hW => ⟨0, rfl, (by simp only [f_unload, if_pos hb_1, if_pos hb_3, if_pos c_5] <;> rfl), ht⟩) (fun q h => absurd h List.not_mem_nil) dX1_unloadFault_60
    case false =>
      refine lv_if_eq (tgt := 45) hx hb dX1_unloadFault_21 (by decide) (fun _ => ?_) (fun c_8 => absurd (by decide) c_8)
      refine lv_iconst (v := 0) hx hb dX1_unloadFault_45 (by decide) ?_
      refine lv_istore_n (lv' := [(3, .int 0), (2, .ref (a (3 + (s_find st id)))), (0, .ref (a 0)), (1, .int id)]) hx hb dX1_unloadFault_46 rfl hl (by decide) rfl (fun ls hl => ?_)
      refine lv_iload_n hx hb dX1_unloadFault_47 rfl (lv_at hl 0 rfl) ?_
      refine lv_if_eq (tgt := 57) hx hb dX1_unloadFault_48 (by decide) (fun _ => ?_) (fun c_9 => absurd (by decide) c_9)
      refine va_gets (C := "CourierBags$Fault") (n := "WRONG_STATE") (d := "LCourierBags$Fault;") (v := .ref (X 0 4)) hx hb (hE.fault 4 (by decide)) va_S.rf hown (hts _ kw_340) (fun _ h9 => h9) dX1_unloadFault_57 ?_
      exact W.aret (v := .ref (X 0 4)) hx hb hr (Or.inl ⟨_, rfl⟩) (Or.inr ⟨_, rfl⟩) (fun t ht hW => ⟨4, rfl, (by simp only [f_unload, if_pos hb_1, if_neg (bf hb_3)] <;> rfl), ht⟩) (fun q h => absurd h List.not_mem_nil) dX1_unloadFault_60
  case false =>
    refine lv_if_ne (tgt := 17) hx hb dX1_unloadFault_10 (by decide) (fun c_10 => absurd (by decide) c_10) (fun _ => ?_)
    refine va_gets (C := "CourierBags$Fault") (n := "NO_SUCH_ITEM") (d := "LCourierBags$Fault;") (v := .ref (X 0 2)) hx hb (hE.fault 2 (by decide)) va_S.rf hown (hts _ kw_537) (fun _ h9 => h9) dX1_unloadFault_13 ?_
    exact W.aret (v := .ref (X 0 2)) hx hb hr (Or.inl ⟨_, rfl⟩) (Or.inr ⟨_, rfl⟩) (fun t ht hW => ⟨2, rfl, (by simp only [f_unload, if_neg (bf hb_1)] <;> rfl), ht⟩) (fun q h => absurd h List.not_mem_nil) dX1_unloadFault_16
set_option maxRecDepth 100000 in
set_option maxHeartbeats 4000000 in
theorem c_X1_fillFault (l : Launch) (D : va_G) (G : GA) (B0 : Nat) (X : Nat → Nat → Nat) (a : Nat → Nat) (st : CS) (b : Int32) : Met l yX1_fillFault (wA yX1_fillFault cX1_fillFault 2 (some (.object "CourierBags$Fault"))) ({ frames := 1, cells := 0, slots := 0, locals := 21 } : Room) (va_Pc [.ref (a 0), .int b] (CEp D G a st B0 X)) (va_Sr (fun k => k = f_fill st b) (fun k => .ref (X 0 k))) 0 0 (fun _ => False) := by
  refine Met.ofW (cc := cX1_fillFault) (maxL := 2) (ret := (some (.object "CourierBags$Fault"))) (by decide) rfl ?_
  intro p e s m args below meth c s₁ B hml hv
  obtain ⟨rfl, hP, hK, hE⟩ := hv
  have hx := B.exec
  have hb := B.bytes
  have hr := B.returns
  have hts : ∀ w9 ∈ tb, w9.before ([.ref (a 0), .int b] : List Value).toArray s = true := fun w9 h9 => atoms_spec (ws := (wA yX1_fillFault cX1_fillFault 2 (some (.object "CourierBags$Fault")))) B.pre w9 (List.mem_cons_of_mem _ h9)
  have hown : s.vm.findClass RX1 = some m.cls := findClass_of_methodNamed B.named
  have hlocks := B.notSynchronized
  have hl := lv_entry ([.ref (a 0), .int b]) (n := 2) (Nat.le_of_ble_eq_true rfl)
  rw [lg_entry_eq]
  generalize (lg_sl ([.ref (a 0), .int b]) ++ List.replicate (2 - (lg_sl ([.ref (a 0), .int b])).length) Slot.unset).toArray = ls at hl ⊢
  have hl : lv_has ls 2 [(0, .ref (a 0)), (1, .int b)] := hl
  refine lv_aload_n hx hb dX1_fillFault_0 rfl (lv_at hl 0 rfl) ?_
  refine lv_iload_n hx hb dX1_fillFault_1 rfl (lv_at hl 1 rfl) ?_
  refine vp_callSi (va_runV (As := [.int b]) (rest := []) ⟨hx, hb, hml, hown, hts⟩ (c_X1_hasBag l D G a st b) (cwV 1 hts gw_X1_96 rfl rfl rfl (by decide +kernel) ⟨Nat.le_of_ble_eq_true rfl, Nat.le_of_ble_eq_true rfl⟩) (pv_cw hK hP) rfl rfl hl.1 rfl (lv_room (Nat.le_of_ble_eq_true rfl)) dX1_fillFault_2 ⟨Nat.le_of_ble_eq_true rfl, Nat.le_of_ble_eq_true rfl⟩).run (nm_e ?_)
  cases hb_1 : s_hasBag st b
  case true =>
    refine lv_if_eq (tgt := 14) hx hb dX1_fillFault_5 (by decide) (fun c_2 => absurd c_2 (by decide)) (fun _ => ?_)
    refine va_gets (C := "CourierBags$Fault") (n := "NONE") (d := "LCourierBags$Fault;") (v := .ref (X 0 0)) hx hb (hE.fault 0 (by decide)) va_S.rf hown (hts _ kw_342) (fun _ h9 => h9) dX1_fillFault_8 ?_
    refine lv_goto (tgt := 17) hx hb dX1_fillFault_11 (by decide) ?_
    exact W.aret (v := .ref (X 0 0)) hx hb hr (Or.inl ⟨_, rfl⟩) (Or.inr ⟨_, rfl⟩) (fun t ht hW => ⟨0, rfl, (by simp only [f_fill, if_pos hb_1] <;> rfl), ht⟩) (fun q h => absurd h List.not_mem_nil) dX1_fillFault_17
  case false =>
    refine lv_if_eq (tgt := 14) hx hb dX1_fillFault_5 (by decide) (fun _ => ?_) (fun c_3 => absurd (by decide) c_3)
    refine va_gets (C := "CourierBags$Fault") (n := "NO_SUCH_BAG") (d := "LCourierBags$Fault;") (v := .ref (X 0 3)) hx hb (hE.fault 3 (by decide)) va_S.rf hown (hts _ kw_612) (fun _ h9 => h9) dX1_fillFault_14 ?_
    exact W.aret (v := .ref (X 0 3)) hx hb hr (Or.inl ⟨_, rfl⟩) (Or.inr ⟨_, rfl⟩) (fun t ht hW => ⟨3, rfl, (by simp only [f_fill, if_neg (bf hb_1)] <;> rfl), ht⟩) (fun q h => absurd h List.not_mem_nil) dX1_fillFault_17
set_option maxRecDepth 100000 in
set_option maxHeartbeats 4000000 in
theorem c_X1_handOverFault (l : Launch) (D : va_G) (G : GA) (B0 : Nat) (X : Nat → Nat → Nat) (a : Nat → Nat) (st : CS) : Met l yX1_handOverFault (wA yX1_handOverFault cX1_handOverFault 1 (some (.object "CourierBags$Fault"))) ({ frames := 3, cells := 0, slots := 0, locals := 65 } : Room) (va_Pc [.ref (a 0)] (CEp D G a st B0 X)) (va_Sr (fun k => k = f_handOver st) (fun k => .ref (X 0 k))) 0 0 (fun _ => False) := by
  refine Met.ofW (cc := cX1_handOverFault) (maxL := 1) (ret := (some (.object "CourierBags$Fault"))) (by decide) rfl ?_
  intro p e s m args below meth c s₁ B hml hv
  obtain ⟨rfl, hP, hK, hE⟩ := hv
  have hx := B.exec
  have hb := B.bytes
  have hr := B.returns
  have hts : ∀ w9 ∈ tb, w9.before ([.ref (a 0)] : List Value).toArray s = true := fun w9 h9 => atoms_spec (ws := (wA yX1_handOverFault cX1_handOverFault 1 (some (.object "CourierBags$Fault")))) B.pre w9 (List.mem_cons_of_mem _ h9)
  have hown : s.vm.findClass RX1 = some m.cls := findClass_of_methodNamed B.named
  have hlocks := B.notSynchronized
  have hl := lv_entry ([.ref (a 0)]) (n := 1) (Nat.le_of_ble_eq_true rfl)
  rw [lg_entry_eq]
  generalize (lg_sl ([.ref (a 0)]) ++ List.replicate (1 - (lg_sl ([.ref (a 0)])).length) Slot.unset).toArray = ls at hl ⊢
  have hl : lv_has ls 1 [(0, .ref (a 0))] := hl
  refine lv_aload_n hx hb dX1_handOverFault_0 rfl (lv_at hl 0 rfl) ?_
  refine vp_callSi (va_runV (As := []) (rest := []) ⟨hx, hb, hml, hown, hts⟩ (c_X1_hasPackedItem l D G a st) (cwV 0 hts gw_X1_130 rfl rfl rfl (by decide +kernel) ⟨Nat.le_of_ble_eq_true rfl, Nat.le_of_ble_eq_true rfl⟩) (pv_cw hK hP) rfl rfl hl.1 rfl (lv_room (Nat.le_of_ble_eq_true rfl)) dX1_handOverFault_1 ⟨Nat.le_of_ble_eq_true rfl, Nat.le_of_ble_eq_true rfl⟩).run (nm_e ?_)
  cases hb_1 : s_hasPacked st
  case true =>
    refine lv_if_eq (tgt := 13) hx hb dX1_handOverFault_4 (by decide) (fun c_2 => absurd c_2 (by decide)) (fun _ => ?_)
    refine va_gets (C := "CourierBags$Fault") (n := "NONE") (d := "LCourierBags$Fault;") (v := .ref (X 0 0)) hx hb (hE.fault 0 (by decide)) va_S.rf hown (hts _ kw_342) (fun _ h9 => h9) dX1_handOverFault_7 ?_
    refine lv_goto (tgt := 16) hx hb dX1_handOverFault_10 (by decide) ?_
    exact W.aret (v := .ref (X 0 0)) hx hb hr (Or.inl ⟨_, rfl⟩) (Or.inr ⟨_, rfl⟩) (fun t ht hW => ⟨0, rfl, (by simp only [f_handOver, if_pos hb_1] <;> rfl), ht⟩) (fun q h => absurd h List.not_mem_nil) dX1_handOverFault_16
  case false =>
    refine lv_if_eq (tgt := 13) hx hb dX1_handOverFault_4 (by decide) (fun _ => ?_) (fun c_3 => absurd (by decide) c_3)
    refine va_gets (C := "CourierBags$Fault") (n := "WRONG_STATE") (d := "LCourierBags$Fault;") (v := .ref (X 0 4)) hx hb (hE.fault 4 (by decide)) va_S.rf hown (hts _ kw_340) (fun _ h9 => h9) dX1_handOverFault_13 ?_
    exact W.aret (v := .ref (X 0 4)) hx hb hr (Or.inl ⟨_, rfl⟩) (Or.inr ⟨_, rfl⟩) (fun t ht hW => ⟨4, rfl, (by simp only [f_handOver, if_neg (bf hb_1)] <;> rfl), ht⟩) (fun q h => absurd h List.not_mem_nil) dX1_handOverFault_16
