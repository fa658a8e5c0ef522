theorem gw_X7_388 : GoodIn tb (wsV RX7 388 RX6 yX6_number (wA yX6_number cX6_number 2 (some .int))) := gV kw_851 kw_852 kw_853 kw_28 kw_854
theorem gw_X7_379 : GoodIn tb (wsV RX7 379 RX6 yX6_rewind (wA yX6_rewind cX6_rewind 1 none)) := gV kw_845 kw_759 kw_760 kw_28 kw_761
theorem gw_X7_382 : GoodIn tb (wsV RX7 382 RX6 yX6_readCommand (wA yX6_readCommand cX6_readCommand 7 (some .boolean))) := gV kw_846 kw_763 kw_764 kw_28 kw_765
theorem gw_X7_385 : GoodIn tb (wsV RX7 385 RX7 yX7_commandFault (wA yX7_commandFault cX7_commandFault 2 (some (.object "CourierBags$Fault")))) := gV kw_847 kw_849 kw_16 kw_24 kw_850
theorem gw_X7_391 : GoodIn tb (wsV RX7 391 RX7 yX7_runCommand (wA yX7_runCommand cX7_runCommand 2 none)) := gV kw_874 kw_876 kw_18 kw_24 kw_877
theorem gw_X7_394 : GoodIn tb (wsV RX7 394 RX6 yX6_take (wA yX6_take cX6_take 2 (some .boolean))) := gV kw_882 kw_832 kw_833 kw_28 kw_834
theorem gw_X7_302 : GoodIn tb (wsV RX7 302 RX6 yX6_countCommands (wA yX6_countCommands cX6_countCommands 2 (some .int))) := gV kw_754 kw_755 kw_756 kw_28 kw_757
theorem gw_X7_316 : GoodIn tb (wsV RX7 316 RX7 yX7_runCommands (wA yX7_runCommands cX7_runCommands 4 (some .int))) := gV kw_841 kw_843 kw_15 kw_24 kw_844
theorem gw_X7_308 : GoodIn tb (wsV RX7 308 RX6 yX6_clear (wA yX6_clear cX6_clear 1 none)) := gV kw_836 kw_837 kw_838 kw_28 kw_839
set_option maxRecDepth 100000 in
set_option maxHeartbeats 4000000 in
theorem c_X7_commandFault (l : Launch) (D : va_G) (G : GA) (B0 : Nat) (X : Nat → Nat → Nat) (ad : AD) (c0 c1 c2 : CS) (hS : Nat → CS) (hn : Nat) (sv : SV) (lv : LV) (bs fl : Nat → Int32) (hsv : SVok sv) : Met l yX7_commandFault (wA yX7_commandFault cX7_commandFault 2 (some (.object "CourierBags$Fault"))) ({ frames := 5, cells := 0, slots := 0, locals := 117 } : Room) (va_Pc [.ref (ad.1 3 0)] (CQp D G B0 X ad c0 c1 c2 hS hn sv lv bs fl)) (va_Sr (fun k => k = e_flt c0 sv) (fun k => .ref (X 0 k))) 0 0 (fun _ => False) := by
  refine Met.ofW (cc := cX7_commandFault) (maxL := 2) (ret := (some (.object "CourierBags$Fault"))) (by decide) rfl ?_
  intro p9 e s m args below meth c9 s₁ B hml hv
  obtain ⟨rfl, hP, hK, hE⟩ := hv
  have hx := B.exec
  have hb := B.bytes
  have hr := B.returns
  have hts : ∀ w9 ∈ tb, w9.before ([.ref (ad.1 3 0)] : List Value).toArray s = true := fun w9 h9 => atoms_spec (ws := (wA yX7_commandFault cX7_commandFault 2 (some (.object "CourierBags$Fault")))) B.pre w9 (List.mem_cons_of_mem _ h9)
  have hown : s.vm.findClass RX7 = some m.cls := findClass_of_methodNamed B.named
  have hlocks := B.notSynchronized
  have hAB : ∀ q : Nat, (fun _ : Nat => False) q → B0 ≤ q := fun _ h => h.elim
  have hS0 : va_S (fun _ => False) s.heap s.heap [] := va_S.rf
  have hl := lv_entry ([.ref (ad.1 3 0)]) (n := 2) (Nat.le_of_ble_eq_true rfl)
  rw [lg_entry_eq]
  generalize (lg_sl ([.ref (ad.1 3 0)]) ++ List.replicate (2 - (lg_sl ([.ref (ad.1 3 0)])).length) Slot.unset).toArray = ls at hl ⊢
  have hl : lv_has ls 2 [(0, .ref (ad.1 3 0))] := hl
  refine lv_aload_n hx hb dX7_commandFault_0 rfl (lv_at hl 0 rfl) ?_
  refine va_get (D := D) (ci := 8) (v := .ref (ad.1 3 3)) (C := RX7) (T := TX7) (N := 12) hx hb hts i_X7 hown hK (P_blk hP (i := 0) rfl) 0 rfl rfl 4 (by decide) (hts _ kw_232) (fun _ h9 => h9) rfl dX7_commandFault_1 ?_
  refine lv_iconst (v := 0) hx hb dX7_commandFault_4 (by decide) ?_
  refine vp_callSi (va_runV (As := [.int 0]) (rest := []) ⟨hx, hb, hml, hown, hts⟩ (c_X6_number l D G X (ad.1 3 3) (ad.1 3 4) (ad.1 3 5) sv.1 sv.2.1 sv.2.2.1 sv.2.2.2.1 sv.2.2.2.2.1 sv.2.2.2.2.2.1 sv.2.2.2.2.2.2 hsv.1 hsv.2.1 hsv.2.2.1 0 (by decide)) (cwV 1 hts gw_X7_388 rfl rfl rfl (by decide +kernel) ⟨Nat.le_of_ble_eq_true rfl, Nat.le_of_ble_eq_true rfl⟩) (pv_sq hK (P_blk hP (i := 5) rfl)) rfl rfl hl.1 rfl (lv_room (Nat.le_of_ble_eq_true rfl)) dX7_commandFault_5 ⟨Nat.le_of_ble_eq_true rfl, Nat.le_of_ble_eq_true rfl⟩).run (nm_e ?_)
  refine lv_istore_n (lv' := [(1, .int (v_num sv 0)), (0, .ref (ad.1 3 0))]) hx hb dX7_commandFault_8 rfl hl (by decide) rfl (fun ls hl => ?_)
  refine va_gets (C := "CourierBags$1") (n := "$SwitchMap$CourierBags$Kind") (d := "[I") (v := .ref (X 4 1)) hx hb hE.k.2.2.2.2.1 (S_weak hS0 hAB) hown (hts _ kw_855) (fun _ h9 => h9) dX7_commandFault_9 ?_
  refine lv_aload_n hx hb dX7_commandFault_12 rfl (lv_at hl 1 rfl) ?_
  refine va_get (D := D) (ci := 8) (v := .ref (ad.1 3 3)) (C := RX7) (T := TX7) (N := 12) hx hb hts i_X7 hown hK (P_blk hP (i := 0) rfl) 0 rfl rfl 4 (by decide) (hts _ kw_232) (fun _ h9 => h9) rfl dX7_commandFault_13 ?_
  refine va_getN (D := D) (ci := 7) (v := .ref (X 1 (sv.2.2.2.2.2.2))) (C := RX6) (T := TX6) (N := 7) hx hb hts i_X6 hown hK (P_blk hP (i := 5) rfl) 0 rfl rfl 3 (by decide) (va_Nw.use rfl (nw_174 hE.nw)) (fun _ h9 => h9) rfl dX7_commandFault_16 ?_
  refine vp_callSi (va_runU (As := []) (rest := [.ref (X 4 1)]) ⟨hx, hb, hml, hown, hts⟩ (c_ordinal l B0 X (sv.2.2.2.2.2.2) hsv.2.2.2) (va_cwU 0 hts gw_ord rfl rfl rfl rfl (by decide +kernel) ⟨Nat.le_of_ble_eq_true rfl, Nat.le_of_ble_eq_true rfl⟩) (pv_en (hE.at hS0 hAB) hsv.2.2.2) rfl rfl hl.1 rfl (lv_room (Nat.le_of_ble_eq_true rfl)) dX7_commandFault_19 ⟨Nat.le_of_ble_eq_true rfl, Nat.le_of_ble_eq_true rfl⟩).run (nm_e ?_)
  have hkd : (sv.2.2.2.2.2.2) < 7 := hsv.2.2.2
  rcases (show (sv.2.2.2.2.2.2) = 0 ∨ (sv.2.2.2.2.2.2) = 1 ∨ (sv.2.2.2.2.2.2) = 2 ∨ (sv.2.2.2.2.2.2) = 3 ∨ (sv.2.2.2.2.2.2) = 4 ∨ (sv.2.2.2.2.2.2) = 5 ∨ (sv.2.2.2.2.2.2) = 6 from by omega) with hk | hk | hk | hk | hk | hk | hk
  · skip
    refine va_ti (v := .int 1) hx hb hE.k.2.2.2.2.2 (S_weak hS0 hAB) (vp_in_nI hkd (by decide)) (by rw [hk]; rfl) dX7_commandFault_22 ?_
    refine lv_tableIn (tgt := 60) hx hb dX7_commandFault_23 (by decide) (by decide) rfl (by decide) ?_
    refine lv_aload_n hx hb dX7_commandFault_60 rfl (lv_at hl 1 rfl) ?_
    refine va_get (D := D) (ci := 8) (v := .ref (ad.1 0 0)) (C := RX7) (T := TX7) (N := 12) hx hb hts i_X7 hown hK (P_blk hP (i := 0) rfl) 0 rfl rfl 0 (by decide) (hts _ kw_228) (fun _ h9 => h9) rfl dX7_commandFault_61 ?_
    refine lv_iload_n hx hb dX7_commandFault_64 rfl (lv_at hl 0 rfl) ?_
    have hPc : va_P D vwCl (cw G (ad.1 0) c0) s.heap := P_blk hP (i := 1) rfl
    refine va_csr (va_runV (As := [.int (v_num sv 0)]) (rest := []) ⟨hx, hb, hml, hown, hts⟩ (c_X1_openFault l D G B0 X (ad.1 0) c0 (v_num sv 0)) (cwV 1 hts gw_X7_60 rfl rfl rfl (by decide +kernel) ⟨Nat.le_of_ble_eq_true rfl, Nat.le_of_ble_eq_true rfl⟩) (pv_ce hK hPc (hE.at hS0 hAB)) rfl rfl hl.1 rfl (lv_room (Nat.le_of_ble_eq_true rfl)) dX7_commandFault_65 ⟨Nat.le_of_ble_eq_true rfl, Nat.le_of_ble_eq_true rfl⟩).run (nm_e ?_)
    exact W.aret (v := .ref (X 0 (f_open c0 (v_num sv 0)))) hx hb hr (Or.inl ⟨_, rfl⟩) (Or.inr ⟨_, rfl⟩) (fun t ht hW => ⟨(f_open c0 (v_num sv 0)), rfl, by rw [e_flt, hk]; rfl, ht⟩) (fun q h => absurd h List.not_mem_nil) dX7_commandFault_68
  · skip
    refine va_ti (v := .int 2) hx hb hE.k.2.2.2.2.2 (S_weak hS0 hAB) (vp_in_nI hkd (by decide)) (by rw [hk]; rfl) dX7_commandFault_22 ?_
    refine lv_tableIn (tgt := 69) hx hb dX7_commandFault_23 (by decide) (by decide) rfl (by decide) ?_
    refine lv_aload_n hx hb dX7_commandFault_69 rfl (lv_at hl 1 rfl) ?_
    refine va_get (D := D) (ci := 8) (v := .ref (ad.1 0 0)) (C := RX7) (T := TX7) (N := 12) hx hb hts i_X7 hown hK (P_blk hP (i := 0) rfl) 0 rfl rfl 0 (by decide) (hts _ kw_228) (fun _ h9 => h9) rfl dX7_commandFault_70 ?_
    refine lv_iload_n hx hb dX7_commandFault_73 rfl (lv_at hl 0 rfl) ?_
    refine lv_aload_n hx hb dX7_commandFault_74 rfl (lv_at hl 1 rfl) ?_
    refine va_get (D := D) (ci := 8) (v := .ref (ad.1 3 3)) (C := RX7) (T := TX7) (N := 12) hx hb hts i_X7 hown hK (P_blk hP (i := 0) rfl) 0 rfl rfl 4 (by decide) (hts _ kw_232) (fun _ h9 => h9) rfl dX7_commandFault_75 ?_
    refine lv_iconst (v := 1) hx hb dX7_commandFault_78 (by decide) ?_
    refine vp_callSi (va_runV (As := [.int 1]) (rest := [.int (v_num sv 0), .ref (ad.1 0 0)]) ⟨hx, hb, hml, hown, hts⟩ (c_X6_number l D G X (ad.1 3 3) (ad.1 3 4) (ad.1 3 5) sv.1 sv.2.1 sv.2.2.1 sv.2.2.2.1 sv.2.2.2.2.1 sv.2.2.2.2.2.1 sv.2.2.2.2.2.2 hsv.1 hsv.2.1 hsv.2.2.1 1 (by decide)) (cwV 1 hts gw_X7_388 rfl rfl rfl (by decide +kernel) ⟨Nat.le_of_ble_eq_true rfl, Nat.le_of_ble_eq_true rfl⟩) (pv_sq hK (P_blk hP (i := 5) rfl)) rfl rfl hl.1 rfl (lv_room (Nat.le_of_ble_eq_true rfl)) dX7_commandFault_79 ⟨Nat.le_of_ble_eq_true rfl, Nat.le_of_ble_eq_true rfl⟩).run (nm_e ?_)
    refine lv_aload_n hx hb dX7_commandFault_82 rfl (lv_at hl 1 rfl) ?_
    refine va_get (D := D) (ci := 8) (v := .ref (ad.1 3 3)) (C := RX7) (T := TX7) (N := 12) hx hb hts i_X7 hown hK (P_blk hP (i := 0) rfl) 0 rfl rfl 4 (by decide) (hts _ kw_232) (fun _ h9 => h9) rfl dX7_commandFault_83 ?_
    refine lv_iconst (v := 2) hx hb dX7_commandFault_86 (by decide) ?_
    refine vp_callSi (va_runV (As := [.int 2]) (rest := [.int (v_num sv 1), .int (v_num sv 0), .ref (ad.1 0 0)]) ⟨hx, hb, hml, hown, hts⟩ (c_X6_number l D G X (ad.1 3 3) (ad.1 3 4) (ad.1 3 5) sv.1 sv.2.1 sv.2.2.1 sv.2.2.2.1 sv.2.2.2.2.1 sv.2.2.2.2.2.1 sv.2.2.2.2.2.2 hsv.1 hsv.2.1 hsv.2.2.1 2 (by decide)) (cwV 1 hts gw_X7_388 rfl rfl rfl (by decide +kernel) ⟨Nat.le_of_ble_eq_true rfl, Nat.le_of_ble_eq_true rfl⟩) (pv_sq hK (P_blk hP (i := 5) rfl)) rfl rfl hl.1 rfl (lv_room (Nat.le_of_ble_eq_true rfl)) dX7_commandFault_87 ⟨Nat.le_of_ble_eq_true rfl, Nat.le_of_ble_eq_true rfl⟩).run (nm_e ?_)
    have hPc : va_P D vwCl (cw G (ad.1 0) c0) s.heap := P_blk hP (i := 1) rfl
    refine va_csr (va_runV (As := [.int (v_num sv 0), .int (v_num sv 1), .int (v_num sv 2)]) (rest := []) ⟨hx, hb, hml, hown, hts⟩ (c_X1_takeInFault l D G B0 X (ad.1 0) c0 (v_num sv 0) (v_num sv 1) (v_num sv 2)) (cwV 3 hts gw_X7_76 rfl rfl rfl (by decide +kernel) ⟨Nat.le_of_ble_eq_true rfl, Nat.le_of_ble_eq_true rfl⟩) (pv_ce hK hPc (hE.at hS0 hAB)) rfl rfl hl.1 rfl (lv_room (Nat.le_of_ble_eq_true rfl)) dX7_commandFault_90 ⟨Nat.le_of_ble_eq_true rfl, Nat.le_of_ble_eq_true rfl⟩).run (nm_e ?_)
    exact W.aret (v := .ref (X 0 (f_takeIn c0 (v_num sv 0) (v_num sv 1) (v_num sv 2)))) hx hb hr (Or.inl ⟨_, rfl⟩) (Or.inr ⟨_, rfl⟩) (fun t ht hW => ⟨(f_takeIn c0 (v_num sv 0) (v_num sv 1) (v_num sv 2)), rfl, by rw [e_flt, hk]; rfl, ht⟩) (fun q h => absurd h List.not_mem_nil) dX7_commandFault_93
  · skip
    refine va_ti (v := .int 3) hx hb hE.k.2.2.2.2.2 (S_weak hS0 hAB) (vp_in_nI hkd (by decide)) (by rw [hk]; rfl) dX7_commandFault_22 ?_
    refine lv_tableIn (tgt := 94) hx hb dX7_commandFault_23 (by decide) (by decide) rfl (by decide) ?_
    refine lv_aload_n hx hb dX7_commandFault_94 rfl (lv_at hl 1 rfl) ?_
    refine va_get (D := D) (ci := 8) (v := .ref (ad.1 0 0)) (C := RX7) (T := TX7) (N := 12) hx hb hts i_X7 hown hK (P_blk hP (i := 0) rfl) 0 rfl rfl 0 (by decide) (hts _ kw_228) (fun _ h9 => h9) rfl dX7_commandFault_95 ?_
    refine lv_iload_n hx hb dX7_commandFault_98 rfl (lv_at hl 0 rfl) ?_
    have hPc : va_P D vwCl (cw G (ad.1 0) c0) s.heap := P_blk hP (i := 1) rfl
    refine va_csr (va_runV (As := [.int (v_num sv 0)]) (rest := []) ⟨hx, hb, hml, hown, hts⟩ (c_X1_dropFault l D G B0 X (ad.1 0) c0 (v_num sv 0)) (cwV 1 hts gw_X7_84 rfl rfl rfl (by decide +kernel) ⟨Nat.le_of_ble_eq_true rfl, Nat.le_of_ble_eq_true rfl⟩) (pv_ce hK hPc (hE.at hS0 hAB)) rfl rfl hl.1 rfl (lv_room (Nat.le_of_ble_eq_true rfl)) dX7_commandFault_99 ⟨Nat.le_of_ble_eq_true rfl, Nat.le_of_ble_eq_true rfl⟩).run (nm_e ?_)
    exact W.aret (v := .ref (X 0 (f_drop c0 (v_num sv 0)))) hx hb hr (Or.inl ⟨_, rfl⟩) (Or.inr ⟨_, rfl⟩) (fun t ht hW => ⟨(f_drop c0 (v_num sv 0)), rfl, by rw [e_flt, hk]; rfl, ht⟩) (fun q h => absurd h List.not_mem_nil) dX7_commandFault_102
  · skip
    refine va_ti (v := .int 4) hx hb hE.k.2.2.2.2.2 (S_weak hS0 hAB) (vp_in_nI hkd (by decide)) (by rw [hk]; rfl) dX7_commandFault_22 ?_
    refine lv_tableIn (tgt := 103) hx hb dX7_commandFault_23 (by decide) (by decide) rfl (by decide) ?_
    refine lv_aload_n hx hb dX7_commandFault_103 rfl (lv_at hl 1 rfl) ?_
    refine va_get (D := D) (ci := 8) (v := .ref (ad.1 0 0)) (C := RX7) (T := TX7) (N := 12) hx hb hts i_X7 hown hK (P_blk hP (i := 0) rfl) 0 rfl rfl 0 (by decide) (hts _ kw_228) (fun _ h9 => h9) rfl dX7_commandFault_104 ?_
    refine lv_iload_n hx hb dX7_commandFault_107 rfl (lv_at hl 0 rfl) ?_
    refine lv_aload_n hx hb dX7_commandFault_108 rfl (lv_at hl 1 rfl) ?_
    refine va_get (D := D) (ci := 8) (v := .ref (ad.1 3 3)) (C := RX7) (T := TX7) (N := 12) hx hb hts i_X7 hown hK (P_blk hP (i := 0) rfl) 0 rfl rfl 4 (by decide) (hts _ kw_232) (fun _ h9 => h9) rfl dX7_commandFault_109 ?_
    refine lv_iconst (v := 1) hx hb dX7_commandFault_112 (by decide) ?_
    refine vp_callSi (va_runV (As := [.int 1]) (rest := [.int (v_num sv 0), .ref (ad.1 0 0)]) ⟨hx, hb, hml, hown, hts⟩ (c_X6_number l D G X (ad.1 3 3) (ad.1 3 4) (ad.1 3 5) sv.1 sv.2.1 sv.2.2.1 sv.2.2.2.1 sv.2.2.2.2.1 sv.2.2.2.2.2.1 sv.2.2.2.2.2.2 hsv.1 hsv.2.1 hsv.2.2.1 1 (by decide)) (cwV 1 hts gw_X7_388 rfl rfl rfl (by decide +kernel) ⟨Nat.le_of_ble_eq_true rfl, Nat.le_of_ble_eq_true rfl⟩) (pv_sq hK (P_blk hP (i := 5) rfl)) rfl rfl hl.1 rfl (lv_room (Nat.le_of_ble_eq_true rfl)) dX7_commandFault_113 ⟨Nat.le_of_ble_eq_true rfl, Nat.le_of_ble_eq_true rfl⟩).run (nm_e ?_)
    have hPc : va_P D vwCl (cw G (ad.1 0) c0) s.heap := P_blk hP (i := 1) rfl
    refine va_csr (va_runV (As := [.int (v_num sv 0), .int (v_num sv 1)]) (rest := []) ⟨hx, hb, hml, hown, hts⟩ (c_X1_loadFault l D G B0 X (ad.1 0) c0 (v_num sv 0) (v_num sv 1)) (cwV 2 hts gw_X7_90 rfl rfl rfl (by decide +kernel) ⟨Nat.le_of_ble_eq_true rfl, Nat.le_of_ble_eq_true rfl⟩) (pv_ce hK hPc (hE.at hS0 hAB)) rfl rfl hl.1 rfl (lv_room (Nat.le_of_ble_eq_true rfl)) dX7_commandFault_116 ⟨Nat.le_of_ble_eq_true rfl, Nat.le_of_ble_eq_true rfl⟩).run (nm_e ?_)
    exact W.aret (v := .ref (X 0 (f_load c0 (v_num sv 0) (v_num sv 1)))) hx hb hr (Or.inl ⟨_, rfl⟩) (Or.inr ⟨_, rfl⟩) (fun t ht hW => ⟨(f_load c0 (v_num sv 0) (v_num sv 1)), rfl, by rw [e_flt, hk]; rfl, ht⟩) (fun q h => absurd h List.not_mem_nil) dX7_commandFault_119
  · skip
    refine va_ti (v := .int 5) hx hb hE.k.2.2.2.2.2 (S_weak hS0 hAB) (vp_in_nI hkd (by decide)) (by rw [hk]; rfl) dX7_commandFault_22 ?_
    refine lv_tableIn (tgt := 120) hx hb dX7_commandFault_23 (by decide) (by decide) rfl (by decide) ?_
    refine lv_aload_n hx hb dX7_commandFault_120 rfl (lv_at hl 1 rfl) ?_
    refine va_get (D := D) (ci := 8) (v := .ref (ad.1 0 0)) (C := RX7) (T := TX7) (N := 12) hx hb hts i_X7 hown hK (P_blk hP (i := 0) rfl) 0 rfl rfl 0 (by decide) (hts _ kw_228) (fun _ h9 => h9) rfl dX7_commandFault_121 ?_
    refine lv_iload_n hx hb dX7_commandFault_124 rfl (lv_at hl 0 rfl) ?_
    have hPc : va_P D vwCl (cw G (ad.1 0) c0) s.heap := P_blk hP (i := 1) rfl
    refine va_csr (va_runV (As := [.int (v_num sv 0)]) (rest := []) ⟨hx, hb, hml, hown, hts⟩ (c_X1_unloadFault l D G B0 X (ad.1 0) c0 (v_num sv 0)) (cwV 1 hts gw_X7_116 rfl rfl rfl (by decide +kernel) ⟨Nat.le_of_ble_eq_true rfl, Nat.le_of_ble_eq_true rfl⟩) (pv_ce hK hPc (hE.at hS0 hAB)) rfl rfl hl.1 rfl (lv_room (Nat.le_of_ble_eq_true rfl)) dX7_commandFault_125 ⟨Nat.le_of_ble_eq_true rfl, Nat.le_of_ble_eq_true rfl⟩).run (nm_e ?_)
    exact W.aret (v := .ref (X 0 (f_unload c0 (v_num sv 0)))) hx hb hr (Or.inl ⟨_, rfl⟩) (Or.inr ⟨_, rfl⟩) (fun t ht hW => ⟨(f_unload c0 (v_num sv 0)), rfl, by rw [e_flt, hk]; rfl, ht⟩) (fun q h => absurd h List.not_mem_nil) dX7_commandFault_128
  · skip
    refine va_ti (v := .int 6) hx hb hE.k.2.2.2.2.2 (S_weak hS0 hAB) (vp_in_nI hkd (by decide)) (by rw [hk]; rfl) dX7_commandFault_22 ?_
    refine lv_tableIn (tgt := 129) hx hb dX7_commandFault_23 (by decide) (by decide) rfl (by decide) ?_
    refine lv_aload_n hx hb dX7_commandFault_129 rfl (lv_at hl 1 rfl) ?_
    refine va_get (D := D) (ci := 8) (v := .ref (ad.1 0 0)) (C := RX7) (T := TX7) (N := 12) hx hb hts i_X7 hown hK (P_blk hP (i := 0) rfl) 0 rfl rfl 0 (by decide) (hts _ kw_228) (fun _ h9 => h9) rfl dX7_commandFault_130 ?_
    refine lv_iload_n hx hb dX7_commandFault_133 rfl (lv_at hl 0 rfl) ?_
    have hPc : va_P D vwCl (cw G (ad.1 0) c0) s.heap := P_blk hP (i := 1) rfl
    refine va_csr (va_runV (As := [.int (v_num sv 0)]) (rest := []) ⟨hx, hb, hml, hown, hts⟩ (c_X1_fillFault l D G B0 X (ad.1 0) c0 (v_num sv 0)) (cwV 1 hts gw_X7_122 rfl rfl rfl (by decide +kernel) ⟨Nat.le_of_ble_eq_true rfl, Nat.le_of_ble_eq_true rfl⟩) (pv_ce hK hPc (hE.at hS0 hAB)) rfl rfl hl.1 rfl (lv_room (Nat.le_of_ble_eq_true rfl)) dX7_commandFault_134 ⟨Nat.le_of_ble_eq_true rfl, Nat.le_of_ble_eq_true rfl⟩).run (nm_e ?_)
    exact W.aret (v := .ref (X 0 (f_fill c0 (v_num sv 0)))) hx hb hr (Or.inl ⟨_, rfl⟩) (Or.inr ⟨_, rfl⟩) (fun t ht hW => ⟨(f_fill c0 (v_num sv 0)), rfl, by rw [e_flt, hk]; rfl, ht⟩) (fun q h => absurd h List.not_mem_nil) dX7_commandFault_137
  · skip
    refine va_ti (v := .int 0) hx hb hE.k.2.2.2.2.2 (S_weak hS0 hAB) (vp_in_nI hkd (by decide)) (by rw [hk]; rfl) dX7_commandFault_22 ?_
    refine lv_tableOut (tgt := 138) hx hb dX7_commandFault_23 (by decide) (by decide) ?_
    refine lv_aload_n hx hb dX7_commandFault_138 rfl (lv_at hl 1 rfl) ?_
    refine va_get (D := D) (ci := 8) (v := .ref (ad.1 0 0)) (C := RX7) (T := TX7) (N := 12) hx hb hts i_X7 hown hK (P_blk hP (i := 0) rfl) 0 rfl rfl 0 (by decide) (hts _ kw_228) (fun _ h9 => h9) rfl dX7_commandFault_139 ?_
    have hPc : va_P D vwCl (cw G (ad.1 0) c0) s.heap := P_blk hP (i := 1) rfl
    refine va_csr (va_runV (As := []) (rest := []) ⟨hx, hb, hml, hown, hts⟩ (c_X1_handOverFault l D G B0 X (ad.1 0) c0) (cwV 0 hts gw_X7_128 rfl rfl rfl (by decide +kernel) ⟨Nat.le_of_ble_eq_true rfl, Nat.le_of_ble_eq_true rfl⟩) (pv_ce hK hPc (hE.at hS0 hAB)) rfl rfl hl.1 rfl (lv_room (Nat.le_of_ble_eq_true rfl)) dX7_commandFault_142 ⟨Nat.le_of_ble_eq_true rfl, Nat.le_of_ble_eq_true rfl⟩).run (nm_e ?_)
    exact W.aret (v := .ref (X 0 (f_handOver c0))) hx hb hr (Or.inl ⟨_, rfl⟩) (Or.inr ⟨_, rfl⟩) (fun t ht hW => ⟨(f_handOver c0), rfl, by rw [e_flt, hk]; rfl, ht⟩) (fun q h => absurd h List.not_mem_nil) dX7_commandFault_145
set_option maxRecDepth 100000 in
set_option maxHeartbeats 4000000 in
theorem c_X7_runCommand (l : Launch) (D : va_G) (G : GA) (B0 : Nat) (X : Nat → Nat → Nat) (ad : AD) (c0 c1 c2 : CS) (hS : Nat → CS) (hn : Nat) (sv : SV) (lv : LV) (bs fl : Nat → Int32) (hsv : SVok sv) (hBG : BG c0) (hf0 : e_flt c0 sv = 0) (sz : Nat) : Met l yX7_runCommand (wA yX7_runCommand cX7_runCommand 2 none) ({ frames := 5, cells := 0, slots := 0, locals := 119 } : Room) (va_Pc [.ref (ad.1 3 0)] (CBp D G B0 X ad c0 c1 c2 hS hn sv lv bs fl sz)) (va_Qv (fun u : Unit => True) (fun u t9 => va_P D vwCl (CBL G X ad (e_run c0 sv) c1 c2 hS hn sv lv bs fl).flatten t9.heap ∧ va_D (va_A (CBL G X ad c0 c1 c2 hS hn sv lv bs fl).flatten sz) (CBL G X ad (e_run c0 sv) c1 c2 hS hn sv lv bs fl).flatten) (va_A (CBL G X ad c0 c1 c2 hS hn sv lv bs fl).flatten sz)) 0 0 (va_A (CBL G X ad c0 c1 c2 hS hn sv lv bs fl).flatten sz) := by
  refine Met.ofW (cc := cX7_runCommand) (maxL := 2) (ret := none) (by decide) rfl ?_
  intro p9 e s m args below meth c9 s₁ B hml hv
  obtain ⟨rfl, hsz, hP, hK, hDB, hE⟩ := hv
  have hx := B.exec
  have hb := B.bytes
  have hr := B.returns
  have hts : ∀ w9 ∈ tb, w9.before ([.ref (ad.1 3 0)] : List Value).toArray s = true := fun w9 h9 => atoms_spec (ws := (wA yX7_runCommand cX7_runCommand 2 none)) B.pre w9 (List.mem_cons_of_mem _ h9)
  have hown : s.vm.findClass RX7 = some m.cls := findClass_of_methodNamed B.named
  have hlocks := B.notSynchronized
  subst hsz
  have hD := hDB.self (sz := s.heap.size)
  have hAB := A_sub hDB hE.1
  generalize hAe : va_A (CBL G X ad c0 c1 c2 hS hn sv lv bs fl).flatten s.heap.size = A at hD hAB ⊢
  have hA0 : ∀ q : Nat, s.heap.size ≤ q → A q := fun q h => by rw [← hAe]; exact Or.inr h
  have hS0 : va_S A s.heap s.heap [] := va_S.rf
  have hl := lv_entry ([.ref (ad.1 3 0)]) (n := 2) (Nat.le_of_ble_eq_true rfl)
  rw [lg_entry_eq]
  generalize (lg_sl ([.ref (ad.1 3 0)]) ++ List.replicate (2 - (lg_sl ([.ref (ad.1 3 0)])).length) Slot.unset).toArray = ls at hl ⊢
  have hl : lv_has ls 2 [(0, .ref (ad.1 3 0))] := hl
  refine lv_aload_n hx hb dX7_runCommand_0 rfl (lv_at hl 0 rfl) ?_
  refine va_get (D := D) (ci := 8) (v := .ref (ad.1 3 3)) (C := RX7) (T := TX7) (N := 12) hx hb hts i_X7 hown hK (P_blk hP (i := 0) rfl) 0 rfl rfl 4 (by decide) (hts _ kw_232) (fun _ h9 => h9) rfl dX7_runCommand_1 ?_
  refine lv_iconst (v := 0) hx hb dX7_runCommand_4 (by decide) ?_
  refine vp_callSi (va_runV (As := [.int 0]) (rest := []) ⟨hx, hb, hml, hown, hts⟩ (c_X6_number l D G X (ad.1 3 3) (ad.1 3 4) (ad.1 3 5) sv.1 sv.2.1 sv.2.2.1 sv.2.2.2.1 sv.2.2.2.2.1 sv.2.2.2.2.2.1 sv.2.2.2.2.2.2 hsv.1 hsv.2.1 hsv.2.2.1 0 (by decide)) (cwV 1 hts gw_X7_388 rfl rfl rfl (by decide +kernel) ⟨Nat.le_of_ble_eq_true rfl, Nat.le_of_ble_eq_true rfl⟩) (pv_sq hK (P_blk hP (i := 5) rfl)) rfl rfl hl.1 rfl (lv_room (Nat.le_of_ble_eq_true rfl)) dX7_runCommand_5 ⟨Nat.le_of_ble_eq_true rfl, Nat.le_of_ble_eq_true rfl⟩).run (nm_e ?_)
  refine lv_istore_n (lv' := [(1, .int (v_num sv 0)), (0, .ref (ad.1 3 0))]) hx hb dX7_runCommand_8 rfl hl (by decide) rfl (fun ls hl => ?_)
  refine va_gets (C := "CourierBags$1") (n := "$SwitchMap$CourierBags$Kind") (d := "[I") (v := .ref (X 4 1)) hx hb hE.k.2.2.2.2.1 (S_weak hS0 hAB) hown (hts _ kw_855) (fun _ h9 => h9) dX7_runCommand_9 ?_
  refine lv_aload_n hx hb dX7_runCommand_12 rfl (lv_at hl 1 rfl) ?_
  refine va_get (D := D) (ci := 8) (v := .ref (ad.1 3 3)) (C := RX7) (T := TX7) (N := 12) hx hb hts i_X7 hown hK (P_blk hP (i := 0) rfl) 0 rfl rfl 4 (by decide) (hts _ kw_232) (fun _ h9 => h9) rfl dX7_runCommand_13 ?_
  refine va_getN (D := D) (ci := 7) (v := .ref (X 1 (sv.2.2.2.2.2.2))) (C := RX6) (T := TX6) (N := 7) hx hb hts i_X6 hown hK (P_blk hP (i := 5) rfl) 0 rfl rfl 3 (by decide) (va_Nw.use rfl (nw_174 hE.nw)) (fun _ h9 => h9) rfl dX7_runCommand_16 ?_
  refine vp_callSi (va_runU (As := []) (rest := [.ref (X 4 1)]) ⟨hx, hb, hml, hown, hts⟩ (c_ordinal l B0 X (sv.2.2.2.2.2.2) hsv.2.2.2) (va_cwU 0 hts gw_ord rfl rfl rfl rfl (by decide +kernel) ⟨Nat.le_of_ble_eq_true rfl, Nat.le_of_ble_eq_true rfl⟩) (pv_en (hE.at hS0 hAB) hsv.2.2.2) rfl rfl hl.1 rfl (lv_room (Nat.le_of_ble_eq_true rfl)) dX7_runCommand_19 ⟨Nat.le_of_ble_eq_true rfl, Nat.le_of_ble_eq_true rfl⟩).run (nm_e ?_)
  have hkd : (sv.2.2.2.2.2.2) < 7 := hsv.2.2.2
  rcases (show (sv.2.2.2.2.2.2) = 0 ∨ (sv.2.2.2.2.2.2) = 1 ∨ (sv.2.2.2.2.2.2) = 2 ∨ (sv.2.2.2.2.2.2) = 3 ∨ (sv.2.2.2.2.2.2) = 4 ∨ (sv.2.2.2.2.2.2) = 5 ∨ (sv.2.2.2.2.2.2) = 6 from by omega) with hk | hk | hk | hk | hk | hk | hk
  · skip
    refine va_ti (v := .int 1) hx hb hE.k.2.2.2.2.2 (S_weak hS0 hAB) (vp_in_nI hkd (by decide)) (by rw [hk]; rfl) dX7_runCommand_22 ?_
    refine lv_tableIn (tgt := 60) hx hb dX7_runCommand_23 (by decide) (by decide) rfl (by decide) ?_
    refine lv_aload_n hx hb dX7_runCommand_60 rfl (lv_at hl 1 rfl) ?_
    refine va_get (D := D) (ci := 8) (v := .ref (ad.1 0 0)) (C := RX7) (T := TX7) (N := 12) hx hb hts i_X7 hown hK (P_blk hP (i := 0) rfl) 0 rfl rfl 0 (by decide) (hts _ kw_228) (fun _ h9 => h9) rfl dX7_runCommand_61 ?_
    refine lv_iload_n hx hb dX7_runCommand_64 rfl (lv_at hl 0 rfl) ?_
    have hbi : (CBL G X ad c0 c1 c2 hS hn sv lv bs fl)[1]? = some (cw G (ad.1 0) c0) := rfl
    have hFc := freeB hD hbi hS0 hA0
    refine va_calli (va_runV (As := [.int (v_num sv 0)]) (rest := []) ⟨hx, hb, hml, hown, hts⟩ (c_X1_open l D G (ad.1 0) c0 (v_num sv 0) hBG.1 hBG.2 s.heap.size) (cwV 1 hts gw_X7_72 rfl rfl rfl (by decide +kernel) ⟨Nat.le_of_ble_eq_true rfl, Nat.le_of_ble_eq_true rfl⟩) (pv_cm hK (P_blk hP hbi) (D_blk hD hbi)) rfl rfl hl.1 rfl (lv_room (Nat.le_of_ble_eq_true rfl)) dX7_runCommand_65 ⟨Nat.le_of_ble_eq_true rfl, Nat.le_of_ble_eq_true rfl⟩) hS0 (fun q _ h => hFc q h) hFc (fun r u t9 H1 locs ht hvm hw_1 hB hz1 hk1 hS0 => ?_)
    have hB : va_P D vwCl (cw G (ad.1 0) ((m_open c0 (v_num sv 0)).2)) H1 := by have h9 := hB; rw [ht] at h9; exact h9
    have hP := P_rep hP hD hbi hk1 hB
    have hD := D_rep (C1 := cw G (ad.1 0) ((m_open c0 (v_num sv 0)).2)) hD hbi (cw_addr G _ _ _)
    obtain ⟨H, rfl⟩ : ∃ z, z = H1 := ⟨_, rfl⟩
    have hP : va_P D vwCl (CBL G X ad ((m_open c0 (v_num sv 0)).2) c1 c2 hS hn sv lv bs fl).flatten H := hP
    have hD : va_D A (CBL G X ad ((m_open c0 (v_num sv 0)).2) c1 c2 hS hn sv lv bs fl).flatten := hD
    rw [hw_1]
    refine lv_pop hx hb dX7_runCommand_68 rfl ?_
    refine lv_goto (tgt := 171) hx hb dX7_runCommand_69 (by decide) ?_
    refine W.widen (k := 0) (n := 0) (Nat.le_of_ble_eq_true rfl) (Nat.le_of_ble_eq_true rfl) ?_
    have hP9 : va_P D vwCl (CBL G X ad (e_run c0 sv) c1 c2 hS hn sv lv bs fl).flatten H := by rw [e_run, hk]; exact hP
    have hD9 : va_D A (CBL G X ad (e_run c0 sv) c1 c2 hS hn sv lv bs fl).flatten := by rw [e_run, hk]; exact hD
    exact (W.vret hx hb hr (fun t ht hW => ⟨⟨(), rfl, trivial, by rw [ht]; exact hP9, hD9⟩, hS0.F ht⟩) hS0.2.2 dX7_runCommand_171)
  · skip
    refine va_ti (v := .int 2) hx hb hE.k.2.2.2.2.2 (S_weak hS0 hAB) (vp_in_nI hkd (by decide)) (by rw [hk]; rfl) dX7_runCommand_22 ?_
    refine lv_tableIn (tgt := 72) hx hb dX7_runCommand_23 (by decide) (by decide) rfl (by decide) ?_
    refine lv_aload_n hx hb dX7_runCommand_72 rfl (lv_at hl 1 rfl) ?_
    refine va_get (D := D) (ci := 8) (v := .ref (ad.1 0 0)) (C := RX7) (T := TX7) (N := 12) hx hb hts i_X7 hown hK (P_blk hP (i := 0) rfl) 0 rfl rfl 0 (by decide) (hts _ kw_228) (fun _ h9 => h9) rfl dX7_runCommand_73 ?_
    refine lv_iload_n hx hb dX7_runCommand_76 rfl (lv_at hl 0 rfl) ?_
    refine lv_aload_n hx hb dX7_runCommand_77 rfl (lv_at hl 1 rfl) ?_
    refine va_get (D := D) (ci := 8) (v := .ref (ad.1 3 3)) (C := RX7) (T := TX7) (N := 12) hx hb hts i_X7 hown hK (P_blk hP (i := 0) rfl) 0 rfl rfl 4 (by decide) (hts _ kw_232) (fun _ h9 => h9) rfl dX7_runCommand_78 ?_
    refine lv_iconst (v := 1) hx hb dX7_runCommand_81 (by decide) ?_
    refine vp_callSi (va_runV (As := [.int 1]) (rest := [.int (v_num sv 0), .ref (ad.1 0 0)]) ⟨hx, hb, hml, hown, hts⟩ (c_X6_number l D G X (ad.1 3 3) (ad.1 3 4) (ad.1 3 5) sv.1 sv.2.1 sv.2.2.1 sv.2.2.2.1 sv.2.2.2.2.1 sv.2.2.2.2.2.1 sv.2.2.2.2.2.2 hsv.1 hsv.2.1 hsv.2.2.1 1 (by decide)) (cwV 1 hts gw_X7_388 rfl rfl rfl (by decide +kernel) ⟨Nat.le_of_ble_eq_true rfl, Nat.le_of_ble_eq_true rfl⟩) (pv_sq hK (P_blk hP (i := 5) rfl)) rfl rfl hl.1 rfl (lv_room (Nat.le_of_ble_eq_true rfl)) dX7_runCommand_82 ⟨Nat.le_of_ble_eq_true rfl, Nat.le_of_ble_eq_true rfl⟩).run (nm_e ?_)
    refine lv_aload_n hx hb dX7_runCommand_85 rfl (lv_at hl 1 rfl) ?_
    refine va_get (D := D) (ci := 8) (v := .ref (ad.1 3 3)) (C := RX7) (T := TX7) (N := 12) hx hb hts i_X7 hown hK (P_blk hP (i := 0) rfl) 0 rfl rfl 4 (by decide) (hts _ kw_232) (fun _ h9 => h9) rfl dX7_runCommand_86 ?_
    refine lv_iconst (v := 2) hx hb dX7_runCommand_89 (by decide) ?_
    refine vp_callSi (va_runV (As := [.int 2]) (rest := [.int (v_num sv 1), .int (v_num sv 0), .ref (ad.1 0 0)]) ⟨hx, hb, hml, hown, hts⟩ (c_X6_number l D G X (ad.1 3 3) (ad.1 3 4) (ad.1 3 5) sv.1 sv.2.1 sv.2.2.1 sv.2.2.2.1 sv.2.2.2.2.1 sv.2.2.2.2.2.1 sv.2.2.2.2.2.2 hsv.1 hsv.2.1 hsv.2.2.1 2 (by decide)) (cwV 1 hts gw_X7_388 rfl rfl rfl (by decide +kernel) ⟨Nat.le_of_ble_eq_true rfl, Nat.le_of_ble_eq_true rfl⟩) (pv_sq hK (P_blk hP (i := 5) rfl)) rfl rfl hl.1 rfl (lv_room (Nat.le_of_ble_eq_true rfl)) dX7_runCommand_90 ⟨Nat.le_of_ble_eq_true rfl, Nat.le_of_ble_eq_true rfl⟩).run (nm_e ?_)
    refine lv_aload_n hx hb dX7_runCommand_93 rfl (lv_at hl 1 rfl) ?_
    refine va_get (D := D) (ci := 8) (v := .ref (ad.1 3 3)) (C := RX7) (T := TX7) (N := 12) hx hb hts i_X7 hown hK (P_blk hP (i := 0) rfl) 0 rfl rfl 4 (by decide) (hts _ kw_232) (fun _ h9 => h9) rfl dX7_runCommand_94 ?_
    refine va_getN (D := D) (ci := 7) (v := .int (z01 (sv.2.2.2.2.2.1))) (C := RX6) (T := TX6) (N := 7) hx hb hts i_X6 hown hK (P_blk hP (i := 5) rfl) 0 rfl rfl 6 (by decide) (va_Nw.use rfl (nw_178 hE.nw)) (fun _ h9 => h9) rfl dX7_runCommand_97 ?_
    rw [mkb_z]
    have hbi : (CBL G X ad c0 c1 c2 hS hn sv lv bs fl)[1]? = some (cw G (ad.1 0) c0) := rfl
    have hFc := freeB hD hbi hS0 hA0
    refine va_calli (va_runV (As := [.int (v_num sv 0), .int (v_num sv 1), .int (v_num sv 2), .int (bi (mkb (sv.2.2.2.2.2.1)))]) (rest := []) ⟨hx, hb, hml, hown, hts⟩ (c_X1_takeIn l D G (ad.1 0) c0 (v_num sv 0) (v_num sv 1) (v_num sv 2) (mkb (sv.2.2.2.2.2.1)) (fr_takeIn (z := v_num sv 0) (w := v_num sv 1) (v := v_num sv 2) (by have h9 := hf0; rw [e_flt, hk] at h9; exact h9)) s.heap.size) (cwV 4 hts gw_X7_80 rfl rfl rfl (by decide +kernel) ⟨Nat.le_of_ble_eq_true rfl, Nat.le_of_ble_eq_true rfl⟩) (pv_cm hK (P_blk hP hbi) (D_blk hD hbi)) rfl rfl hl.1 rfl (lv_room (Nat.le_of_ble_eq_true rfl)) dX7_runCommand_100 ⟨Nat.le_of_ble_eq_true rfl, Nat.le_of_ble_eq_true rfl⟩) hS0 (fun q _ h => hFc q h) hFc (fun r u t9 H1 locs ht hvm hw_2 hB hz1 hk1 hS0 => ?_)
    have hB : va_P D vwCl (cw G (ad.1 0) ((m_takeIn c0 (v_num sv 0) (v_num sv 1) (v_num sv 2) (mkb (sv.2.2.2.2.2.1))).2)) H1 := by have h9 := hB; rw [ht] at h9; exact h9
    have hP := P_rep hP hD hbi hk1 hB
    have hD := D_rep (C1 := cw G (ad.1 0) ((m_takeIn c0 (v_num sv 0) (v_num sv 1) (v_num sv 2) (mkb (sv.2.2.2.2.2.1))).2)) hD hbi (cw_addr G _ _ _)
    obtain ⟨H, rfl⟩ : ∃ z, z = H1 := ⟨_, rfl⟩
    have hP : va_P D vwCl (CBL G X ad ((m_takeIn c0 (v_num sv 0) (v_num sv 1) (v_num sv 2) (mkb (sv.2.2.2.2.2.1))).2) c1 c2 hS hn sv lv bs fl).flatten H := hP
    have hD : va_D A (CBL G X ad ((m_takeIn c0 (v_num sv 0) (v_num sv 1) (v_num sv 2) (mkb (sv.2.2.2.2.2.1))).2) c1 c2 hS hn sv lv bs fl).flatten := hD
    rw [hw_2]
    refine lv_pop hx hb dX7_runCommand_103 rfl ?_
    refine lv_goto (tgt := 171) hx hb dX7_runCommand_104 (by decide) ?_
    refine W.widen (k := 0) (n := 0) (Nat.le_of_ble_eq_true rfl) (Nat.le_of_ble_eq_true rfl) ?_
    have hP9 : va_P D vwCl (CBL G X ad (e_run c0 sv) c1 c2 hS hn sv lv bs fl).flatten H := by rw [e_run, hk]; exact hP
    have hD9 : va_D A (CBL G X ad (e_run c0 sv) c1 c2 hS hn sv lv bs fl).flatten := by rw [e_run, hk]; exact hD
    exact (W.vret hx hb hr (fun t ht hW => ⟨⟨(), rfl, trivial, by rw [ht]; exact hP9, hD9⟩, hS0.F ht⟩) hS0.2.2 dX7_runCommand_171)
  · skip
    refine va_ti (v := .int 3) hx hb hE.k.2.2.2.2.2 (S_weak hS0 hAB) (vp_in_nI hkd (by decide)) (by rw [hk]; rfl) dX7_runCommand_22 ?_
    refine lv_tableIn (tgt := 107) hx hb dX7_runCommand_23 (by decide) (by decide) rfl (by decide) ?_
    refine lv_aload_n hx hb dX7_runCommand_107 rfl (lv_at hl 1 rfl) ?_
    refine va_get (D := D) (ci := 8) (v := .ref (ad.1 0 0)) (C := RX7) (T := TX7) (N := 12) hx hb hts i_X7 hown hK (P_blk hP (i := 0) rfl) 0 rfl rfl 0 (by decide) (hts _ kw_228) (fun _ h9 => h9) rfl dX7_runCommand_108 ?_
    refine lv_iload_n hx hb dX7_runCommand_111 rfl (lv_at hl 0 rfl) ?_
    have hbi : (CBL G X ad c0 c1 c2 hS hn sv lv bs fl)[1]? = some (cw G (ad.1 0) c0) := rfl
    have hFc := freeB hD hbi hS0 hA0
    refine va_calli (va_runV (As := [.int (v_num sv 0)]) (rest := []) ⟨hx, hb, hml, hown, hts⟩ (c_X1_drop l D G (ad.1 0) c0 (v_num sv 0) (fr_drop (id := v_num sv 0) (by have h9 := hf0; rw [e_flt, hk] at h9; exact h9)) s.heap.size) (cwV 1 hts gw_X7_87 rfl rfl rfl (by decide +kernel) ⟨Nat.le_of_ble_eq_true rfl, Nat.le_of_ble_eq_true rfl⟩) (pv_cm hK (P_blk hP hbi) (D_blk hD hbi)) rfl rfl hl.1 rfl (lv_room (Nat.le_of_ble_eq_true rfl)) dX7_runCommand_112 ⟨Nat.le_of_ble_eq_true rfl, Nat.le_of_ble_eq_true rfl⟩) hS0 (fun q _ h => hFc q h) hFc (fun r u t9 H1 locs ht hvm hw_3 hB hz1 hk1 hS0 => ?_)
    have hB : va_P D vwCl (cw G (ad.1 0) ((m_drop c0 (v_num sv 0)).2)) H1 := by have h9 := hB; rw [ht] at h9; exact h9
    have hP := P_rep hP hD hbi hk1 hB
    have hD := D_rep (C1 := cw G (ad.1 0) ((m_drop c0 (v_num sv 0)).2)) hD hbi (cw_addr G _ _ _)
    obtain ⟨H, rfl⟩ : ∃ z, z = H1 := ⟨_, rfl⟩
    have hP : va_P D vwCl (CBL G X ad ((m_drop c0 (v_num sv 0)).2) c1 c2 hS hn sv lv bs fl).flatten H := hP
    have hD : va_D A (CBL G X ad ((m_drop c0 (v_num sv 0)).2) c1 c2 hS hn sv lv bs fl).flatten := hD
    rw [hw_3]
    refine lv_pop hx hb dX7_runCommand_115 rfl ?_
    refine lv_goto (tgt := 171) hx hb dX7_runCommand_116 (by decide) ?_
    refine W.widen (k := 0) (n := 0) (Nat.le_of_ble_eq_true rfl) (Nat.le_of_ble_eq_true rfl) ?_
    have hP9 : va_P D vwCl (CBL G X ad (e_run c0 sv) c1 c2 hS hn sv lv bs fl).flatten H := by rw [e_run, hk]; exact hP
    have hD9 : va_D A (CBL G X ad (e_run c0 sv) c1 c2 hS hn sv lv bs fl).flatten := by rw [e_run, hk]; exact hD
    exact (W.vret hx hb hr (fun t ht hW => ⟨⟨(), rfl, trivial, by rw [ht]; exact hP9, hD9⟩, hS0.F ht⟩) hS0.2.2 dX7_runCommand_171)
  · skip
    refine va_ti (v := .int 4) hx hb hE.k.2.2.2.2.2 (S_weak hS0 hAB) (vp_in_nI hkd (by decide)) (by rw [hk]; rfl) dX7_runCommand_22 ?_
    refine lv_tableIn (tgt := 119) hx hb dX7_runCommand_23 (by decide) (by decide) rfl (by decide) ?_
    refine lv_aload_n hx hb dX7_runCommand_119 rfl (lv_at hl 1 rfl) ?_
    refine va_get (D := D) (ci := 8) (v := .ref (ad.1 0 0)) (C := RX7) (T := TX7) (N := 12) hx hb hts i_X7 hown hK (P_blk hP (i := 0) rfl) 0 rfl rfl 0 (by decide) (hts _ kw_228) (fun _ h9 => h9) rfl dX7_runCommand_120 ?_
    refine lv_iload_n hx hb dX7_runCommand_123 rfl (lv_at hl 0 rfl) ?_
    refine lv_aload_n hx hb dX7_runCommand_124 rfl (lv_at hl 1 rfl) ?_
    refine va_get (D := D) (ci := 8) (v := .ref (ad.1 3 3)) (C := RX7) (T := TX7) (N := 12) hx hb hts i_X7 hown hK (P_blk hP (i := 0) rfl) 0 rfl rfl 4 (by decide) (hts _ kw_232) (fun _ h9 => h9) rfl dX7_runCommand_125 ?_
    refine lv_iconst (v := 1) hx hb dX7_runCommand_128 (by decide) ?_
    refine vp_callSi (va_runV (As := [.int 1]) (rest := [.int (v_num sv 0), .ref (ad.1 0 0)]) ⟨hx, hb, hml, hown, hts⟩ (c_X6_number l D G X (ad.1 3 3) (ad.1 3 4) (ad.1 3 5) sv.1 sv.2.1 sv.2.2.1 sv.2.2.2.1 sv.2.2.2.2.1 sv.2.2.2.2.2.1 sv.2.2.2.2.2.2 hsv.1 hsv.2.1 hsv.2.2.1 1 (by decide)) (cwV 1 hts gw_X7_388 rfl rfl rfl (by decide +kernel) ⟨Nat.le_of_ble_eq_true rfl, Nat.le_of_ble_eq_true rfl⟩) (pv_sq hK (P_blk hP (i := 5) rfl)) rfl rfl hl.1 rfl (lv_room (Nat.le_of_ble_eq_true rfl)) dX7_runCommand_129 ⟨Nat.le_of_ble_eq_true rfl, Nat.le_of_ble_eq_true rfl⟩).run (nm_e ?_)
    have hbi : (CBL G X ad c0 c1 c2 hS hn sv lv bs fl)[1]? = some (cw G (ad.1 0) c0) := rfl
    have hFc := freeB hD hbi hS0 hA0
    refine va_calli (va_runV (As := [.int (v_num sv 0), .int (v_num sv 1)]) (rest := []) ⟨hx, hb, hml, hown, hts⟩ (c_X1_load l D G (ad.1 0) c0 (v_num sv 0) (v_num sv 1) (fr_load (id := v_num sv 0) (b := v_num sv 1) (by have h9 := hf0; rw [e_flt, hk] at h9; exact h9)) s.heap.size) (cwV 2 hts gw_X7_98 rfl rfl rfl (by decide +kernel) ⟨Nat.le_of_ble_eq_true rfl, Nat.le_of_ble_eq_true rfl⟩) (pv_cm hK (P_blk hP hbi) (D_blk hD hbi)) rfl rfl hl.1 rfl (lv_room (Nat.le_of_ble_eq_true rfl)) dX7_runCommand_132 ⟨Nat.le_of_ble_eq_true rfl, Nat.le_of_ble_eq_true rfl⟩) hS0 (fun q _ h => hFc q h) hFc (fun r u t9 H1 locs ht hvm hw_4 hB hz1 hk1 hS0 => ?_)
    have hB : va_P D vwCl (cw G (ad.1 0) ((m_load c0 (v_num sv 0) (v_num sv 1)).2)) H1 := by have h9 := hB; rw [ht] at h9; exact h9
    have hP := P_rep hP hD hbi hk1 hB
    have hD := D_rep (C1 := cw G (ad.1 0) ((m_load c0 (v_num sv 0) (v_num sv 1)).2)) hD hbi (cw_addr G _ _ _)
    obtain ⟨H, rfl⟩ : ∃ z, z = H1 := ⟨_, rfl⟩
    have hP : va_P D vwCl (CBL G X ad ((m_load c0 (v_num sv 0) (v_num sv 1)).2) c1 c2 hS hn sv lv bs fl).flatten H := hP
    have hD : va_D A (CBL G X ad ((m_load c0 (v_num sv 0) (v_num sv 1)).2) c1 c2 hS hn sv lv bs fl).flatten := hD
    rw [hw_4]
    refine lv_pop hx hb dX7_runCommand_135 rfl ?_
    refine lv_goto (tgt := 171) hx hb dX7_runCommand_136 (by decide) ?_
    refine W.widen (k := 0) (n := 0) (Nat.le_of_ble_eq_true rfl) (Nat.le_of_ble_eq_true rfl) ?_
    have hP9 : va_P D vwCl (CBL G X ad (e_run c0 sv) c1 c2 hS hn sv lv bs fl).flatten H := by rw [e_run, hk]; exact hP
    have hD9 : va_D A (CBL G X ad (e_run c0 sv) c1 c2 hS hn sv lv bs fl).flatten := by rw [e_run, hk]; exact hD
    exact (W.vret hx hb hr (fun t ht hW => ⟨⟨(), rfl, trivial, by rw [ht]; exact hP9, hD9⟩, hS0.F ht⟩) hS0.2.2 dX7_runCommand_171)
  · skip
    refine va_ti (v := .int 5) hx hb hE.k.2.2.2.2.2 (S_weak hS0 hAB) (vp_in_nI hkd (by decide)) (by rw [hk]; rfl) dX7_runCommand_22 ?_
    refine lv_tableIn (tgt := 139) hx hb dX7_runCommand_23 (by decide) (by decide) rfl (by decide) ?_
    refine lv_aload_n hx hb dX7_runCommand_139 rfl (lv_at hl 1 rfl) ?_
    refine va_get (D := D) (ci := 8) (v := .ref (ad.1 0 0)) (C := RX7) (T := TX7) (N := 12) hx hb hts i_X7 hown hK (P_blk hP (i := 0) rfl) 0 rfl rfl 0 (by decide) (hts _ kw_228) (fun _ h9 => h9) rfl dX7_runCommand_140 ?_
    refine lv_iload_n hx hb dX7_runCommand_143 rfl (lv_at hl 0 rfl) ?_
    have hbi : (CBL G X ad c0 c1 c2 hS hn sv lv bs fl)[1]? = some (cw G (ad.1 0) c0) := rfl
    have hFc := freeB hD hbi hS0 hA0
    refine va_calli (va_runV (As := [.int (v_num sv 0)]) (rest := []) ⟨hx, hb, hml, hown, hts⟩ (c_X1_unload l D G (ad.1 0) c0 (v_num sv 0) (fr_unload (id := v_num sv 0) (by have h9 := hf0; rw [e_flt, hk] at h9; exact h9)) s.heap.size) (cwV 1 hts gw_X7_119 rfl rfl rfl (by decide +kernel) ⟨Nat.le_of_ble_eq_true rfl, Nat.le_of_ble_eq_true rfl⟩) (pv_cm hK (P_blk hP hbi) (D_blk hD hbi)) rfl rfl hl.1 rfl (lv_room (Nat.le_of_ble_eq_true rfl)) dX7_runCommand_144 ⟨Nat.le_of_ble_eq_true rfl, Nat.le_of_ble_eq_true rfl⟩) hS0 (fun q _ h => hFc q h) hFc (fun r u t9 H1 locs ht hvm hw_5 hB hz1 hk1 hS0 => ?_)
    have hB : va_P D vwCl (cw G (ad.1 0) ((m_unload c0 (v_num sv 0)).2)) H1 := by have h9 := hB; rw [ht] at h9; exact h9
    have hP := P_rep hP hD hbi hk1 hB
    have hD := D_rep (C1 := cw G (ad.1 0) ((m_unload c0 (v_num sv 0)).2)) hD hbi (cw_addr G _ _ _)
    obtain ⟨H, rfl⟩ : ∃ z, z = H1 := ⟨_, rfl⟩
    have hP : va_P D vwCl (CBL G X ad ((m_unload c0 (v_num sv 0)).2) c1 c2 hS hn sv lv bs fl).flatten H := hP
    have hD : va_D A (CBL G X ad ((m_unload c0 (v_num sv 0)).2) c1 c2 hS hn sv lv bs fl).flatten := hD
    rw [hw_5]
    refine lv_pop hx hb dX7_runCommand_147 rfl ?_
    refine lv_goto (tgt := 171) hx hb dX7_runCommand_148 (by decide) ?_
    refine W.widen (k := 0) (n := 0) (Nat.le_of_ble_eq_true rfl) (Nat.le_of_ble_eq_true rfl) ?_
    have hP9 : va_P D vwCl (CBL G X ad (e_run c0 sv) c1 c2 hS hn sv lv bs fl).flatten H := by rw [e_run, hk]; exact hP
    have hD9 : va_D A (CBL G X ad (e_run c0 sv) c1 c2 hS hn sv lv bs fl).flatten := by rw [e_run, hk]; exact hD
    exact (W.vret hx hb hr (fun t ht hW => ⟨⟨(), rfl, trivial, by rw [ht]; exact hP9, hD9⟩, hS0.F ht⟩) hS0.2.2 dX7_runCommand_171)
  · skip
    refine va_ti (v := .int 6) hx hb hE.k.2.2.2.2.2 (S_weak hS0 hAB) (vp_in_nI hkd (by decide)) (by rw [hk]; rfl) dX7_runCommand_22 ?_
    refine lv_tableIn (tgt := 151) hx hb dX7_runCommand_23 (by decide) (by decide) rfl (by decide) ?_
    refine lv_aload_n hx hb dX7_runCommand_151 rfl (lv_at hl 1 rfl) ?_
    refine va_get (D := D) (ci := 8) (v := .ref (ad.1 0 0)) (C := RX7) (T := TX7) (N := 12) hx hb hts i_X7 hown hK (P_blk hP (i := 0) rfl) 0 rfl rfl 0 (by decide) (hts _ kw_228) (fun _ h9 => h9) rfl dX7_runCommand_152 ?_
    refine lv_iload_n hx hb dX7_runCommand_155 rfl (lv_at hl 0 rfl) ?_
    have hbi : (CBL G X ad c0 c1 c2 hS hn sv lv bs fl)[1]? = some (cw G (ad.1 0) c0) := rfl
    have hFc := freeB hD hbi hS0 hA0
    refine va_calli (va_runV (As := [.int (v_num sv 0)]) (rest := []) ⟨hx, hb, hml, hown, hts⟩ (c_X1_fill l D G (ad.1 0) c0 (v_num sv 0) s.heap.size) (cwV 1 hts gw_X7_125 rfl rfl rfl (by decide +kernel) ⟨Nat.le_of_ble_eq_true rfl, Nat.le_of_ble_eq_true rfl⟩) (pv_cm hK (P_blk hP hbi) (D_blk hD hbi)) rfl rfl hl.1 rfl (lv_room (Nat.le_of_ble_eq_true rfl)) dX7_runCommand_156 ⟨Nat.le_of_ble_eq_true rfl, Nat.le_of_ble_eq_true rfl⟩) hS0 (fun q _ h => hFc q h) hFc (fun r u t9 H1 locs ht hvm hw_6 hB hz1 hk1 hS0 => ?_)
    have hB : va_P D vwCl (cw G (ad.1 0) ((m_fill c0 (v_num sv 0)).2)) H1 := by have h9 := hB; rw [ht] at h9; exact h9
    have hP := P_rep hP hD hbi hk1 hB
    have hD := D_rep (C1 := cw G (ad.1 0) ((m_fill c0 (v_num sv 0)).2)) hD hbi (cw_addr G _ _ _)
    obtain ⟨H, rfl⟩ : ∃ z, z = H1 := ⟨_, rfl⟩
    have hP : va_P D vwCl (CBL G X ad ((m_fill c0 (v_num sv 0)).2) c1 c2 hS hn sv lv bs fl).flatten H := hP
    have hD : va_D A (CBL G X ad ((m_fill c0 (v_num sv 0)).2) c1 c2 hS hn sv lv bs fl).flatten := hD
    rw [hw_6]
    refine lv_pop hx hb dX7_runCommand_159 rfl ?_
    refine lv_goto (tgt := 171) hx hb dX7_runCommand_160 (by decide) ?_
    refine W.widen (k := 0) (n := 0) (Nat.le_of_ble_eq_true rfl) (Nat.le_of_ble_eq_true rfl) ?_
    have hP9 : va_P D vwCl (CBL G X ad (e_run c0 sv) c1 c2 hS hn sv lv bs fl).flatten H := by rw [e_run, hk]; exact hP
    have hD9 : va_D A (CBL G X ad (e_run c0 sv) c1 c2 hS hn sv lv bs fl).flatten := by rw [e_run, hk]; exact hD
    exact (W.vret hx hb hr (fun t ht hW => ⟨⟨(), rfl, trivial, by rw [ht]; exact hP9, hD9⟩, hS0.F ht⟩) hS0.2.2 dX7_runCommand_171)
  · skip
    refine va_ti (v := .int 0) hx hb hE.k.2.2.2.2.2 (S_weak hS0 hAB) (vp_in_nI hkd (by decide)) (by rw [hk]; rfl) dX7_runCommand_22 ?_
    refine lv_tableOut (tgt := 163) hx hb dX7_runCommand_23 (by decide) (by decide) ?_
    refine lv_aload_n hx hb dX7_runCommand_163 rfl (lv_at hl 1 rfl) ?_
    refine va_get (D := D) (ci := 8) (v := .ref (ad.1 0 0)) (C := RX7) (T := TX7) (N := 12) hx hb hts i_X7 hown hK (P_blk hP (i := 0) rfl) 0 rfl rfl 0 (by decide) (hts _ kw_228) (fun _ h9 => h9) rfl dX7_runCommand_164 ?_
    have hbi : (CBL G X ad c0 c1 c2 hS hn sv lv bs fl)[1]? = some (cw G (ad.1 0) c0) := rfl
    have hFc := freeB hD hbi hS0 hA0
    refine va_calli (va_runV (As := []) (rest := []) ⟨hx, hb, hml, hown, hts⟩ (c_X1_handOver l D G (ad.1 0) c0 s.heap.size) (cwV 0 hts gw_X7_132 rfl rfl rfl (by decide +kernel) ⟨Nat.le_of_ble_eq_true rfl, Nat.le_of_ble_eq_true rfl⟩) (pv_cm hK (P_blk hP hbi) (D_blk hD hbi)) rfl rfl hl.1 rfl (lv_room (Nat.le_of_ble_eq_true rfl)) dX7_runCommand_167 ⟨Nat.le_of_ble_eq_true rfl, Nat.le_of_ble_eq_true rfl⟩) hS0 (fun q _ h => hFc q h) hFc (fun r u t9 H1 locs ht hvm hw_7 hB hz1 hk1 hS0 => ?_)
    have hB : va_P D vwCl (cw G (ad.1 0) ((m_handOver c0).2)) H1 := by have h9 := hB; rw [ht] at h9; exact h9
    have hP := P_rep hP hD hbi hk1 hB
    have hD := D_rep (C1 := cw G (ad.1 0) ((m_handOver c0).2)) hD hbi (cw_addr G _ _ _)
    obtain ⟨H, rfl⟩ : ∃ z, z = H1 := ⟨_, rfl⟩
    have hP : va_P D vwCl (CBL G X ad ((m_handOver c0).2) c1 c2 hS hn sv lv bs fl).flatten H := hP
    have hD : va_D A (CBL G X ad ((m_handOver c0).2) c1 c2 hS hn sv lv bs fl).flatten := hD
    rw [hw_7]
    refine lv_pop hx hb dX7_runCommand_170 rfl ?_
    refine W.widen (k := 0) (n := 0) (Nat.le_of_ble_eq_true rfl) (Nat.le_of_ble_eq_true rfl) ?_
    have hP9 : va_P D vwCl (CBL G X ad (e_run c0 sv) c1 c2 hS hn sv lv bs fl).flatten H := by rw [e_run, hk]; exact hP
    have hD9 : va_D A (CBL G X ad (e_run c0 sv) c1 c2 hS hn sv lv bs fl).flatten := by rw [e_run, hk]; exact hD
    exact (W.vret hx hb hr (fun t ht hW => ⟨⟨(), rfl, trivial, by rw [ht]; exact hP9, hD9⟩, hS0.F ht⟩) hS0.2.2 dX7_runCommand_171)
set_option maxRecDepth 100000 in
set_option maxHeartbeats 4000000 in
theorem c_X7_runCommands (l : Launch) (D : va_G) (G : GA) (B0 : Nat) (X : Nat → Nat → Nat) (ad : AD) (c0 c1 c2 : CS) (hS : Nat → CS) (hn : Nat) (sv : SV) (lv : LV) (bs fl : Nat → Int32) (n : Nat) (hn60 : n ≤ 60) (hsv : SVok sv) (hBG : BG c0) (sz : Nat) : Met l yX7_runCommands (wA yX7_runCommands cX7_runCommands 4 (some .int)) ({ frames := 6, cells := 0, slots := 0, locals := 140 } : Room) (va_Pc [.ref (ad.1 3 0), .int (nI n)] (CBp D G B0 X ad c0 c1 c2 hS hn sv lv bs fl sz)) (va_Qi (fun (r : Int32) (u : Unit) => r = nI (e_lp n 0 c0 fl (v_rew sv)).1) (fun u t9 => va_P D vwCl (CBL G X ad ((e_lp n 0 c0 fl (v_rew sv)).2.1) c1 c2 hS hn ((e_lp n 0 c0 fl (v_rew sv)).2.2.2) lv bs ((e_lp n 0 c0 fl (v_rew sv)).2.2.1)).flatten t9.heap ∧ va_D (va_A (CBL G X ad c0 c1 c2 hS hn sv lv bs fl).flatten sz) (CBL G X ad ((e_lp n 0 c0 fl (v_rew sv)).2.1) c1 c2 hS hn ((e_lp n 0 c0 fl (v_rew sv)).2.2.2) lv bs ((e_lp n 0 c0 fl (v_rew sv)).2.2.1)).flatten) (va_A (CBL G X ad c0 c1 c2 hS hn sv lv bs fl).flatten sz)) 0 0 (va_A (CBL G X ad c0 c1 c2 hS hn sv lv bs fl).flatten sz) := by
  refine Met.ofW (cc := cX7_runCommands) (maxL := 4) (ret := (some .int)) (by decide) rfl ?_
  intro p9 e s m args below meth c9 s₁ B hml hv
  obtain ⟨rfl, hsz, hP, hK, hDB, hE⟩ := hv
  have hx := B.exec
  have hb := B.bytes
  have hr := B.returns
  have hts : ∀ w9 ∈ tb, w9.before ([.ref (ad.1 3 0), .int (nI n)] : List Value).toArray s = true := fun w9 h9 => atoms_spec (ws := (wA yX7_runCommands cX7_runCommands 4 (some .int))) B.pre w9 (List.mem_cons_of_mem _ h9)
  have hown : s.vm.findClass RX7 = some m.cls := findClass_of_methodNamed B.named
  have hlocks := B.notSynchronized
  subst hsz
  have hD := hDB.self (sz := s.heap.size)
  have hAB := A_sub hDB hE.1
  generalize hAe : va_A (CBL G X ad c0 c1 c2 hS hn sv lv bs fl).flatten s.heap.size = A at hD hAB ⊢
  have hA0 : ∀ q : Nat, s.heap.size ≤ q → A q := fun q h => by rw [← hAe]; exact Or.inr h
  have hS0 : va_S A s.heap s.heap [] := va_S.rf
  have hl := lv_entry ([.ref (ad.1 3 0), .int (nI n)]) (n := 4) (Nat.le_of_ble_eq_true rfl)
  rw [lg_entry_eq]
  generalize (lg_sl ([.ref (ad.1 3 0), .int (nI n)]) ++ List.replicate (4 - (lg_sl ([.ref (ad.1 3 0), .int (nI n)])).length) Slot.unset).toArray = ls at hl ⊢
  have hl : lv_has ls 4 [(0, .ref (ad.1 3 0)), (1, .int (nI n))] := hl
  refine lv_aload_n hx hb dX7_runCommands_0 rfl (lv_at hl 0 rfl) ?_
  refine va_get (D := D) (ci := 8) (v := .ref (ad.1 3 3)) (C := RX7) (T := TX7) (N := 12) hx hb hts i_X7 hown hK (P_blk hP (i := 0) rfl) 0 rfl rfl 4 (by decide) (hts _ kw_232) (fun _ h9 => h9) rfl dX7_runCommands_1 ?_
  have hb5 : (CBL G X ad c0 c1 c2 hS hn sv lv bs fl)[5]? = some (sw G X (ad.1 3 3) (ad.1 3 4) (ad.1 3 5) sv.1 sv.2.1 sv.2.2.1 sv.2.2.2.1 sv.2.2.2.2.1 sv.2.2.2.2.2.1 sv.2.2.2.2.2.2) := rfl
  have hFc := freeB hD hb5 hS0 hA0
  refine va_callv (va_runV (As := []) (rest := []) ⟨hx, hb, hml, hown, hts⟩ (c_X6_rewind l D G B0 X (ad.1 3 3) (ad.1 3 4) (ad.1 3 5) sv.1 sv.2.1 sv.2.2.1 sv.2.2.2.1 sv.2.2.2.2.1 sv.2.2.2.2.2.1 sv.2.2.2.2.2.2 hsv.1 hsv.2.1 hsv.2.2.1 s.heap.size) (cwV 0 hts gw_X7_379 rfl rfl rfl (by decide +kernel) ⟨Nat.le_of_ble_eq_true rfl, Nat.le_of_ble_eq_true rfl⟩) (pv_sm hK (P_blk hP hb5) (D_blk hD hb5) hAB (hE.at hS0 hAB)) rfl rfl hl.1 rfl (lv_room (Nat.le_of_ble_eq_true rfl)) dX7_runCommands_4 ⟨Nat.le_of_ble_eq_true rfl, Nat.le_of_ble_eq_true rfl⟩) hS0 (fun q _ h => hFc q h) hFc (fun u t9 H1 locs ht hvm hw_1 hB hz1 hk1 hS0 => ?_)
  have hB : va_P D vwCl (sw G X (ad.1 3 3) (ad.1 3 4) (ad.1 3 5) (v_rew sv).1 (v_rew sv).2.1 (v_rew sv).2.2.1 (v_rew sv).2.2.2.1 (v_rew sv).2.2.2.2.1 (v_rew sv).2.2.2.2.2.1 (v_rew sv).2.2.2.2.2.2) H1 := by have h9 := hB; rw [ht] at h9; exact h9
  have hP := P_rep hP hD hb5 hk1 hB
  have hD := D_rep (C1 := (sw G X (ad.1 3 3) (ad.1 3 4) (ad.1 3 5) (v_rew sv).1 (v_rew sv).2.1 (v_rew sv).2.2.1 (v_rew sv).2.2.2.1 (v_rew sv).2.2.2.2.1 (v_rew sv).2.2.2.2.2.1 (v_rew sv).2.2.2.2.2.2)) hD hb5 rfl
  obtain ⟨H, rfl⟩ : ∃ z, z = H1 := ⟨_, rfl⟩
  have hP : va_P D vwCl (CBL G X ad c0 c1 c2 hS hn (v_rew sv) lv bs fl).flatten H := hP
  have hD : va_D A (CBL G X ad c0 c1 c2 hS hn (v_rew sv) lv bs fl).flatten := hD
  refine lv_iconst (v := 0) hx hb dX7_runCommands_7 (by decide) ?_
  refine lv_istore_n (lv' := [(2, .int 0), (0, .ref (ad.1 3 0)), (1, .int (nI n))]) hx hb dX7_runCommands_8 rfl hl (by decide) rfl (fun ls hl => ?_)
  have L9 : ∀ (m9 d : Nat), d + m9 = n → ∀ (c8 : CS) (f8 : Nat → Int32) (v8 : SV) (H : Heap) (locs : List Loc), BG c8 → SVok v8 → va_P D vwCl (CBL G X ad c8 c1 c2 hS hn v8 lv bs f8).flatten H → va_D A (CBL G X ad c8 c1 c2 hS hn v8 lv bs f8).flatten → va_S A s.heap H locs → e_lp n 0 c0 fl (v_rew sv) = e_lp m9 d c8 f8 v8 → ∀ ls : Array Slot, lv_has ls 4 [(2, .int (nI d)), (0, .ref (ad.1 3 0)), (1, .int (nI n))] → W p9 l e (headSpec (wA yX7_runCommands cX7_runCommands 4 (some .int)) ({ frames := 6, cells := 0, slots := 0, locals := 140 } : Room)).room s m ([.ref (ad.1 3 0), .int (nI n)] : List Value).toArray below meth c9 H locs 0 0 (MQ below (va_Qi (fun (r : Int32) (u : Unit) => r = nI (e_lp n 0 c0 fl (v_rew sv)).1) (fun u t9 => va_P D vwCl (CBL G X ad ((e_lp n 0 c0 fl (v_rew sv)).2.1) c1 c2 hS hn ((e_lp n 0 c0 fl (v_rew sv)).2.2.2) lv bs ((e_lp n 0 c0 fl (v_rew sv)).2.2.1)).flatten t9.heap ∧ va_D A (CBL G X ad ((e_lp n 0 c0 fl (v_rew sv)).2.1) c1 c2 hS hn ((e_lp n 0 c0 fl (v_rew sv)).2.2.2) lv bs ((e_lp n 0 c0 fl (v_rew sv)).2.2.1)).flatten) A) ([.ref (ad.1 3 0), .int (nI n)] : List Value).toArray s 0 0 A) (F0 m 9 ls []) := by
    intro m9
    induction m9 with
    | zero =>
      intro d hd c8 f8 v8 H locs hb8 hv8 hP hD hS0 he ls hl
      have hd : d = n := by omega
      refine lv_iload_n hx hb dX7_runCommands_9 rfl (lv_at hl 0 rfl) ?_
      refine lv_iload_n hx hb dX7_runCommands_10 rfl (lv_at hl 2 rfl) ?_
      refine lv_icmp_ge (tgt := 77) hx hb dX7_runCommands_11 (by decide) (fun _ => ?_) (fun c_2 => absurd (nI_le (a := n) (b := d) (by omega) (by omega)) c_2)
      refine lv_iload_n hx hb dX7_runCommands_77 rfl (lv_at hl 2 rfl) ?_
      have hP9 : va_P D vwCl (CBL G X ad ((e_lp n 0 c0 fl (v_rew sv)).2.1) c1 c2 hS hn ((e_lp n 0 c0 fl (v_rew sv)).2.2.2) lv bs ((e_lp n 0 c0 fl (v_rew sv)).2.2.1)).flatten H := by rw [he]; exact hP
      have hD9 : va_D A (CBL G X ad ((e_lp n 0 c0 fl (v_rew sv)).2.1) c1 c2 hS hn ((e_lp n 0 c0 fl (v_rew sv)).2.2.2) lv bs ((e_lp n 0 c0 fl (v_rew sv)).2.2.1)).flatten := by rw [he]; exact hD
      exact W.iret (v := nI n) hx hb hr (fun t ht hW => ⟨⟨nI n, (), rfl, by rw [he]; show nI n = nI d; rw [hd], by rw [ht]; exact hP9, hD9⟩, hS0.F ht⟩) hS0.2.2 dX7_runCommands_78
    | succ m9 ih =>
      intro d hd c8 f8 v8 H locs hb8 hv8 hP hD hS0 he ls hl
      refine lv_iload_n hx hb dX7_runCommands_9 rfl (lv_at hl 0 rfl) ?_
      refine lv_iload_n hx hb dX7_runCommands_10 rfl (lv_at hl 2 rfl) ?_
      refine lv_icmp_ge (tgt := 77) hx hb dX7_runCommands_11 (by decide) (fun c_3 => absurd c_3 (nI_ge (a := d) (b := n) (by omega) (by omega))) (fun _ => ?_)
      refine lv_aload_n hx hb dX7_runCommands_14 rfl (lv_at hl 1 rfl) ?_
      refine va_get (D := D) (ci := 8) (v := .ref (ad.1 3 3)) (C := RX7) (T := TX7) (N := 12) hx hb hts i_X7 hown hK (P_blk hP (i := 0) rfl) 0 rfl rfl 4 (by decide) (hts _ kw_232) (fun _ h9 => h9) rfl dX7_runCommands_15 ?_
      have hb5 : (CBL G X ad c8 c1 c2 hS hn v8 lv bs f8)[5]? = some (sw G X (ad.1 3 3) (ad.1 3 4) (ad.1 3 5) v8.1 v8.2.1 v8.2.2.1 v8.2.2.2.1 v8.2.2.2.2.1 v8.2.2.2.2.2.1 v8.2.2.2.2.2.2) := rfl
      have hFc := freeB hD hb5 hS0 hA0
      refine va_calli (va_runV (As := []) (rest := []) ⟨hx, hb, hml, hown, hts⟩ (c_X6_readCommand l D G B0 X (ad.1 3 3) (ad.1 3 4) (ad.1 3 5) v8.1 v8.2.1 v8.2.2.1 v8.2.2.2.1 v8.2.2.2.2.1 v8.2.2.2.2.2.1 v8.2.2.2.2.2.2 hv8.1 hv8.2.1 hv8.2.2.1 H.size) (cwV 0 hts gw_X7_382 rfl rfl rfl (by decide +kernel) ⟨Nat.le_of_ble_eq_true rfl, Nat.le_of_ble_eq_true rfl⟩) (pv_sm hK (P_blk hP hb5) (D_blk hD hb5) hAB (hE.at hS0 hAB)) rfl rfl hl.1 rfl (lv_room (Nat.le_of_ble_eq_true rfl)) dX7_runCommands_18 ⟨Nat.le_of_ble_eq_true rfl, Nat.le_of_ble_eq_true rfl⟩) hS0 (fun q _ h => hFc q h) hFc (fun r u t9 H1 locs ht hvm hw_4 hB hz1 hk1 hS0 => ?_)
      have hB : va_P D vwCl (sw G X (ad.1 3 3) (ad.1 3 4) (ad.1 3 5) (v_cmd v8).1 (v_cmd v8).2.1 (v_cmd v8).2.2.1 (v_cmd v8).2.2.2.1 (v_cmd v8).2.2.2.2.1 (v_cmd v8).2.2.2.2.2.1 (v_cmd v8).2.2.2.2.2.2) H1 := by have h9 := hB; rw [ht] at h9; exact h9
      have hP := P_rep hP hD hb5 hk1 hB
      have hD := D_rep (C1 := (sw G X (ad.1 3 3) (ad.1 3 4) (ad.1 3 5) (v_cmd v8).1 (v_cmd v8).2.1 (v_cmd v8).2.2.1 (v_cmd v8).2.2.2.1 (v_cmd v8).2.2.2.2.1 (v_cmd v8).2.2.2.2.2.1 (v_cmd v8).2.2.2.2.2.2)) hD hb5 rfl
      obtain ⟨H, rfl⟩ : ∃ z, z = H1 := ⟨_, rfl⟩
      have hP : va_P D vwCl (CBL G X ad c8 c1 c2 hS hn (v_cmd v8) lv bs f8).flatten H := hP
      have hD : va_D A (CBL G X ad c8 c1 c2 hS hn (v_cmd v8) lv bs f8).flatten := hD
      refine lv_pop hx hb dX7_runCommands_21 rfl ?_
      refine lv_aload_n hx hb dX7_runCommands_22 rfl (lv_at hl 1 rfl) ?_
      refine va_csr (va_runV (As := []) (rest := []) ⟨hx, hb, hml, hown, hts⟩ (c_X7_commandFault l D G B0 X ad c8 c1 c2 hS hn (v_cmd v8) lv bs f8 (SVok.cmd hv8)) (cwV 0 hts gw_X7_385 rfl rfl rfl (by decide +kernel) ⟨Nat.le_of_ble_eq_true rfl, Nat.le_of_ble_eq_true rfl⟩) (pv_cq hK hP (hE.at hS0 hAB)) rfl rfl hl.1 rfl (lv_room (Nat.le_of_ble_eq_true rfl)) dX7_runCommands_23 ⟨Nat.le_of_ble_eq_true rfl, Nat.le_of_ble_eq_true rfl⟩).run (nm_e ?_)
      refine lv_astore_n (x := (X 0 (e_flt c8 (v_cmd v8)))) (lv' := [(3, .ref (X 0 (e_flt c8 (v_cmd v8)))), (2, .int (nI d)), (0, .ref (ad.1 3 0)), (1, .int (nI n))]) hx hb dX7_runCommands_26 rfl hl (by decide) rfl (fun ls hl => ?_)
      refine lv_aload_n hx hb dX7_runCommands_27 rfl (lv_at hl 0 rfl) ?_
      refine va_gets (C := "CourierBags$Fault") (n := "NONE") (d := "LCourierBags$Fault;") (v := .ref (X 0 0)) hx hb (hE.fault 0 (by decide)) (S_weak hS0 hAB) hown (hts _ kw_868) (fun _ h9 => h9) dX7_runCommands_28 ?_
      by_cases hk0 : (e_flt c8 (v_cmd v8)) = 0
      · skip
        refine lv_acmp_eq (rx := some (X 0 (e_flt c8 (v_cmd v8)))) (ry := some (X 0 0)) (tgt := 57) hx hb dX7_runCommands_31 (by decide) (fun _ => ?_) (fun h9 => absurd (by rw [hk0]) h9)
        refine lv_aload_n hx hb dX7_runCommands_57 rfl (lv_at hl 2 rfl) ?_
        have hFc := freeC hD hS0 hA0
        refine va_callv (va_runV (As := []) (rest := []) ⟨hx, hb, hml, hown, hts⟩ (c_X7_runCommand l D G B0 X ad c8 c1 c2 hS hn (v_cmd v8) lv bs f8 (SVok.cmd hv8) hb8 hk0 H.size) (cwV 0 hts gw_X7_391 rfl rfl rfl (by decide +kernel) ⟨Nat.le_of_ble_eq_true rfl, Nat.le_of_ble_eq_true rfl⟩) (pv_cb hK hP hD hAB (hE.at hS0 hAB)) rfl rfl hl.1 rfl (lv_room (Nat.le_of_ble_eq_true rfl)) dX7_runCommands_58 ⟨Nat.le_of_ble_eq_true rfl, Nat.le_of_ble_eq_true rfl⟩) hS0 (fun q _ h => hFc q h) hFc (fun u t9 H locs ht hvm hw_5 hB hz1 hk1 hS0 => ?_)
        obtain ⟨hP, hB2⟩ := hB
        rw [ht] at hP
        have hD := hB2.weaken (fun _ _ _ h9 => hFc _ h9)
        have hP : va_P D vwCl (CBL G X ad (e_run c8 (v_cmd v8)) c1 c2 hS hn (v_cmd v8) lv bs f8).flatten H := hP
        have hD : va_D A (CBL G X ad (e_run c8 (v_cmd v8)) c1 c2 hS hn (v_cmd v8) lv bs f8).flatten := hD
        refine lv_aload_n hx hb dX7_runCommands_61 rfl (lv_at hl 2 rfl) ?_
        refine va_get (D := D) (ci := 8) (v := .ref (ad.1 3 3)) (C := RX7) (T := TX7) (N := 12) hx hb hts i_X7 hown hK (P_blk hP (i := 0) rfl) 0 rfl rfl 4 (by decide) (hts _ kw_232) (fun _ h9 => h9) rfl dX7_runCommands_62 ?_
        refine lv_bipush (v := 59) hx hb dX7_runCommands_65 (by decide) ?_
        have hb5 : (CBL G X ad (e_run c8 (v_cmd v8)) c1 c2 hS hn (v_cmd v8) lv bs f8)[5]? = some (sw G X (ad.1 3 3) (ad.1 3 4) (ad.1 3 5) (v_cmd v8).1 (v_cmd v8).2.1 (v_cmd v8).2.2.1 (v_cmd v8).2.2.2.1 (v_cmd v8).2.2.2.2.1 (v_cmd v8).2.2.2.2.2.1 (v_cmd v8).2.2.2.2.2.2) := rfl
        have hFc := freeB hD hb5 hS0 hA0
        refine va_calli (va_runV (As := [.int 59]) (rest := []) ⟨hx, hb, hml, hown, hts⟩ (c_X6_take l D G B0 X (ad.1 3 3) (ad.1 3 4) (ad.1 3 5) (v_cmd v8).1 (v_cmd v8).2.1 (v_cmd v8).2.2.1 (v_cmd v8).2.2.2.1 (v_cmd v8).2.2.2.2.1 (v_cmd v8).2.2.2.2.2.1 (v_cmd v8).2.2.2.2.2.2 (SVok.cmd hv8).1 (SVok.cmd hv8).2.1 (SVok.cmd hv8).2.2.1 59 H.size) (cwV 1 hts gw_X7_394 rfl rfl rfl (by decide +kernel) ⟨Nat.le_of_ble_eq_true rfl, Nat.le_of_ble_eq_true rfl⟩) (pv_sm hK (P_blk hP hb5) (D_blk hD hb5) hAB (hE.at hS0 hAB)) rfl rfl hl.1 rfl (lv_room (Nat.le_of_ble_eq_true rfl)) dX7_runCommands_67 ⟨Nat.le_of_ble_eq_true rfl, Nat.le_of_ble_eq_true rfl⟩) hS0 (fun q _ h => hFc q h) hFc (fun r u t9 H1 locs ht hvm hw_6 hB hz1 hk1 hS0 => ?_)
        have hB : va_P D vwCl (sw G X (ad.1 3 3) (ad.1 3 4) (ad.1 3 5) (v_take (v_cmd v8) 59).1 (v_take (v_cmd v8) 59).2.1 (v_take (v_cmd v8) 59).2.2.1 (v_take (v_cmd v8) 59).2.2.2.1 (v_take (v_cmd v8) 59).2.2.2.2.1 (v_take (v_cmd v8) 59).2.2.2.2.2.1 (v_take (v_cmd v8) 59).2.2.2.2.2.2) H1 := by have h9 := hB; rw [ht] at h9; exact h9
        have hP := P_rep hP hD hb5 hk1 hB
        have hD := D_rep (C1 := (sw G X (ad.1 3 3) (ad.1 3 4) (ad.1 3 5) (v_take (v_cmd v8) 59).1 (v_take (v_cmd v8) 59).2.1 (v_take (v_cmd v8) 59).2.2.1 (v_take (v_cmd v8) 59).2.2.2.1 (v_take (v_cmd v8) 59).2.2.2.2.1 (v_take (v_cmd v8) 59).2.2.2.2.2.1 (v_take (v_cmd v8) 59).2.2.2.2.2.2)) hD hb5 rfl
        obtain ⟨H, rfl⟩ : ∃ z, z = H1 := ⟨_, rfl⟩
        have hP : va_P D vwCl (CBL G X ad (e_run c8 (v_cmd v8)) c1 c2 hS hn (v_take (v_cmd v8) 59) lv bs f8).flatten H := hP
        have hD : va_D A (CBL G X ad (e_run c8 (v_cmd v8)) c1 c2 hS hn (v_take (v_cmd v8) 59) lv bs f8).flatten := hD
        refine lv_pop hx hb dX7_runCommands_70 rfl ?_
        refine lv_iinc (v := nI (d + 1)) (lv' := [(2, .int (nI (d + 1))), (3, .ref (X 0 (e_flt c8 (v_cmd v8)))), (0, .ref (ad.1 3 0)), (1, .int (nI n))]) hx hb dX7_runCommands_71 hl (k := 1) rfl (by exact nI_1 d) (by decide) rfl (fun ls hl => ?_)
        refine lv_goto (tgt := 9) hx hb dX7_runCommands_74 (by decide) ?_
        exact ih (d + 1) (by omega) _ _ _ _ _ (show BG (e_run c8 (v_cmd v8)) from BG_run hb8 _ _ _ _ _) ((hv8.cmd).take 59) hP hD hS0 (he.trans (by simp only [e_lp, if_pos hk0])) ls (lv_sub hl [0, 2, 3] rfl)
      · skip
        refine lv_acmp_eq (rx := some (X 0 (e_flt c8 (v_cmd v8)))) (ry := some (X 0 0)) (tgt := 57) hx hb dX7_runCommands_31 (by decide) (fun h9 => absurd (hE.faultNe (i := (e_flt c8 (v_cmd v8))) (j := 0) (x_flt_lt _ _ _ _ _) (by decide) (Option.some.inj h9)) hk0) (fun _ => ?_)
        refine lv_aload_n hx hb dX7_runCommands_34 rfl (lv_at hl 2 rfl) ?_
        refine lv_aload_n hx hb dX7_runCommands_35 rfl (lv_at hl 0 rfl) ?_
        refine lv_aload_n hx hb dX7_runCommands_36 rfl (lv_at hl 2 rfl) ?_
        refine va_get (D := D) (ci := 8) (v := .ref (ad.1 3 3)) (C := RX7) (T := TX7) (N := 12) hx hb hts i_X7 hown hK (P_blk hP (i := 0) rfl) 0 rfl rfl 4 (by decide) (hts _ kw_232) (fun _ h9 => h9) rfl dX7_runCommands_37 ?_
        refine lv_iconst (v := 0) hx hb dX7_runCommands_40 (by decide) ?_
        refine vp_callSi (va_runV (As := [.int 0]) (rest := [.ref (X 0 (e_flt c8 (v_cmd v8))), .ref (ad.1 3 0)]) ⟨hx, hb, hml, hown, hts⟩ (c_X6_number l D G X (ad.1 3 3) (ad.1 3 4) (ad.1 3 5) (v_cmd v8).1 (v_cmd v8).2.1 (v_cmd v8).2.2.1 (v_cmd v8).2.2.2.1 (v_cmd v8).2.2.2.2.1 (v_cmd v8).2.2.2.2.2.1 (v_cmd v8).2.2.2.2.2.2 (SVok.cmd hv8).1 (SVok.cmd hv8).2.1 (SVok.cmd hv8).2.2.1 0 (by decide)) (cwV 1 hts gw_X7_388 rfl rfl rfl (by decide +kernel) ⟨Nat.le_of_ble_eq_true rfl, Nat.le_of_ble_eq_true rfl⟩) (pv_sq hK (P_blk hP (i := 5) rfl)) rfl rfl hl.1 rfl (lv_room (Nat.le_of_ble_eq_true rfl)) dX7_runCommands_41 ⟨Nat.le_of_ble_eq_true rfl, Nat.le_of_ble_eq_true rfl⟩).run (nm_e ?_)
        refine lv_aload_n hx hb dX7_runCommands_44 rfl (lv_at hl 2 rfl) ?_
        refine va_get (D := D) (ci := 8) (v := .ref (ad.1 3 3)) (C := RX7) (T := TX7) (N := 12) hx hb hts i_X7 hown hK (P_blk hP (i := 0) rfl) 0 rfl rfl 4 (by decide) (hts _ kw_232) (fun _ h9 => h9) rfl dX7_runCommands_45 ?_
        refine lv_iconst (v := 1) hx hb dX7_runCommands_48 (by decide) ?_
        refine vp_callSi (va_runV (As := [.int 1]) (rest := [.int (v_num (v_cmd v8) 0), .ref (X 0 (e_flt c8 (v_cmd v8))), .ref (ad.1 3 0)]) ⟨hx, hb, hml, hown, hts⟩ (c_X6_number l D G X (ad.1 3 3) (ad.1 3 4) (ad.1 3 5) (v_cmd v8).1 (v_cmd v8).2.1 (v_cmd v8).2.2.1 (v_cmd v8).2.2.2.1 (v_cmd v8).2.2.2.2.1 (v_cmd v8).2.2.2.2.2.1 (v_cmd v8).2.2.2.2.2.2 (SVok.cmd hv8).1 (SVok.cmd hv8).2.1 (SVok.cmd hv8).2.2.1 1 (by decide)) (cwV 1 hts gw_X7_388 rfl rfl rfl (by decide +kernel) ⟨Nat.le_of_ble_eq_true rfl, Nat.le_of_ble_eq_true rfl⟩) (pv_sq hK (P_blk hP (i := 5) rfl)) rfl rfl hl.1 rfl (lv_room (Nat.le_of_ble_eq_true rfl)) dX7_runCommands_49 ⟨Nat.le_of_ble_eq_true rfl, Nat.le_of_ble_eq_true rfl⟩).run (nm_e ?_)
        have hFc := freeC hD hS0 hA0
        refine va_callv (va_runV (As := [.ref (X 0 (e_flt c8 (v_cmd v8))), .int (v_num (v_cmd v8) 0), .int (v_num (v_cmd v8) 1)]) (rest := []) ⟨hx, hb, hml, hown, hts⟩ (c_X7_keepRefusal l D G B0 X ad c8 c1 c2 hS hn (v_cmd v8) lv bs f8 (e_flt c8 (v_cmd v8)) (x_flt_lt _ _ _ _ _) (v_num (v_cmd v8) 0) (v_num (v_cmd v8) 1) H.size) (cwV 3 hts gw_X7_94 rfl rfl rfl (by decide +kernel) ⟨Nat.le_of_ble_eq_true rfl, Nat.le_of_ble_eq_true rfl⟩) (pv_cb hK hP hD hAB (hE.at hS0 hAB)) rfl rfl hl.1 rfl (lv_room (Nat.le_of_ble_eq_true rfl)) dX7_runCommands_52 ⟨Nat.le_of_ble_eq_true rfl, Nat.le_of_ble_eq_true rfl⟩) hS0 (fun q _ h => hFc q h) hFc (fun u t9 H locs ht hvm hw_7 hB hz1 hk1 hS0 => ?_)
        obtain ⟨hP, hB2⟩ := hB
        rw [ht] at hP
        have hD := hB2.weaken (fun _ _ _ h9 => hFc _ h9)
        have hP : va_P D vwCl (CBL G X ad c8 c1 c2 hS hn (v_cmd v8) lv bs (m_keep c8 f8 (e_flt c8 (v_cmd v8)) (v_num (v_cmd v8) 0) (v_num (v_cmd v8) 1))).flatten H := hP
        have hD : va_D A (CBL G X ad c8 c1 c2 hS hn (v_cmd v8) lv bs (m_keep c8 f8 (e_flt c8 (v_cmd v8)) (v_num (v_cmd v8) 0) (v_num (v_cmd v8) 1))).flatten := hD
        refine lv_iload_n hx hb dX7_runCommands_55 rfl (lv_at hl 1 rfl) ?_
        have he : e_lp n 0 c0 fl (v_rew sv) = (d, c8, m_keep c8 f8 (e_flt c8 (v_cmd v8)) (v_num (v_cmd v8) 0) (v_num (v_cmd v8) 1), v_cmd v8) := he.trans (by simp only [e_lp, if_neg hk0])
        have hP9 : va_P D vwCl (CBL G X ad ((e_lp n 0 c0 fl (v_rew sv)).2.1) c1 c2 hS hn ((e_lp n 0 c0 fl (v_rew sv)).2.2.2) lv bs ((e_lp n 0 c0 fl (v_rew sv)).2.2.1)).flatten H := by rw [he]; exact hP
        have hD9 : va_D A (CBL G X ad ((e_lp n 0 c0 fl (v_rew sv)).2.1) c1 c2 hS hn ((e_lp n 0 c0 fl (v_rew sv)).2.2.2) lv bs ((e_lp n 0 c0 fl (v_rew sv)).2.2.1)).flatten := by rw [he]; exact hD
        exact W.iret (v := nI d) hx hb hr (fun t ht hW => ⟨⟨nI d, (), rfl, by rw [he], by rw [ht]; exact hP9, hD9⟩, hS0.F ht⟩) hS0.2.2 dX7_runCommands_56
  exact L9 n 0 (by omega) _ _ _ _ _ hBG hsv.rew hP hD hS0 rfl ls (lv_sub hl [0, 1, 2] rfl)
set_option maxRecDepth 100000 in
set_option maxHeartbeats 4000000 in
theorem c_X7_execute (l : Launch) (hfl : l.stackTraces = false) (D : va_G) (G : GA) (B0 : Nat) (X : Nat → Nat → Nat) (ad : AD) (c0 c1 c2 : CS) (hS : Nat → CS) (hn : Nat) (sv : SV) (lv : LV) (bs fl : Nat → Int32) (hh : hn ≤ 8) (hsv : SVok sv) (hBG : BG c0) (sz : Nat) : vx_Met l yX7_execute (wA yX7_execute cX7_execute 3 (some .int)) ({ frames := 7, cells := 1, slots := 6, locals := 163 } : Room) (va_Pc [.ref (ad.1 3 0)] (CBp D G B0 X ad c0 c1 c2 hS hn sv lv bs fl sz)) (va_Qi (fun (r : Int32) (u : Unit) => x_exec c0 fl sv = 0 ∧ r = (v_ct sv).1) (fun u t9 => va_P D vwCl (CBL G X (ad.1, pA ad.2.1 hn, ad.2.2) ((e_r c0 fl sv).2.1) (e_c1 c0 c1 sv) c2 (pS hS hn c0) (pN hn) (e_sv c0 fl sv) lv bs (e_fl c0 fl sv)).flatten t9.heap ∧ va_D (va_A (CBL G X ad c0 c1 c2 hS hn sv lv bs fl).flatten sz) (CBL G X (ad.1, pA ad.2.1 hn, ad.2.2) ((e_r c0 fl sv).2.1) (e_c1 c0 c1 sv) c2 (pS hS hn c0) (pN hn) (e_sv c0 fl sv) lv bs (e_fl c0 fl sv)).flatten) (va_A (CBL G X ad c0 c1 c2 hS hn sv lv bs fl).flatten sz)) (vx_X (fun _ : Unit => x_exec c0 fl sv ≠ 0) (fun E _ t9 => E = exN (x_exec c0 fl sv) ∧ va_P D vwCl (CBL G X ad c0 (e_c1 c0 c1 sv) c2 hS hn (e_sv c0 fl sv) lv bs (e_fl c0 fl sv)).flatten t9.heap ∧ va_D (va_A (CBL G X ad c0 c1 c2 hS hn sv lv bs fl).flatten sz) (CBL G X ad c0 (e_c1 c0 c1 sv) c2 hS hn (e_sv c0 fl sv) lv bs (e_fl c0 fl sv)).flatten) (va_A (CBL G X ad c0 c1 c2 hS hn sv lv bs fl).flatten sz)) 1 6 (va_A (CBL G X ad c0 c1 c2 hS hn sv lv bs fl).flatten sz) := by
  refine vx_ofW (cc := cX7_execute) (maxL := 3) (ret := (some .int)) (by decide) rfl ?_
  intro p9 e s m args below meth c9 s₁ B hml hxt hv
  obtain ⟨rfl, hsz, hP, hK, hDB, hE⟩ := hv
  have hx := B.exec
  have hb := B.bytes
  have hr := B.returns
  have hts : ∀ w9 ∈ tb, w9.before ([.ref (ad.1 3 0)] : List Value).toArray s = true := fun w9 h9 => atoms_spec (ws := (wA yX7_execute cX7_execute 3 (some .int))) B.pre w9 (List.mem_cons_of_mem _ h9)
  have hown : s.vm.findClass RX7 = some m.cls := findClass_of_methodNamed B.named
  have hlocks := B.notSynchronized
  subst hsz
  have hD := hDB.self (sz := s.heap.size)
  have hAB := A_sub hDB hE.1
  generalize hAe : va_A (CBL G X ad c0 c1 c2 hS hn sv lv bs fl).flatten s.heap.size = A at hD hAB ⊢
  have hA0 : ∀ q : Nat, s.heap.size ≤ q → A q := fun q h => by rw [← hAe]; exact Or.inr h
  have hS0 : va_S A s.heap s.heap [] := va_S.rf
  have hl := lv_entry ([.ref (ad.1 3 0)]) (n := 3) (Nat.le_of_ble_eq_true rfl)
  rw [lg_entry_eq]
  generalize (lg_sl ([.ref (ad.1 3 0)]) ++ List.replicate (3 - (lg_sl ([.ref (ad.1 3 0)])).length) Slot.unset).toArray = ls at hl ⊢
  have hl : lv_has ls 3 [(0, .ref (ad.1 3 0))] := hl
  refine lv_aload_n hx hb dX7_execute_0 rfl (lv_at hl 0 rfl) ?_
  refine va_get (D := D) (ci := 8) (v := .ref (ad.1 3 3)) (C := RX7) (T := TX7) (N := 12) hx hb hts i_X7 hown hK (P_blk hP (i := 0) rfl) 0 rfl rfl 4 (by decide) (hts _ kw_232) (fun _ h9 => h9) rfl dX7_execute_1 ?_
  have hb5 : (CBL G X ad c0 c1 c2 hS hn sv lv bs fl)[5]? = some (sw G X (ad.1 3 3) (ad.1 3 4) (ad.1 3 5) sv.1 sv.2.1 sv.2.2.1 sv.2.2.2.1 sv.2.2.2.2.1 sv.2.2.2.2.2.1 sv.2.2.2.2.2.2) := rfl
  have hFc := freeB hD hb5 hS0 hA0
  refine va_calli (va_runV (As := []) (rest := []) ⟨hx, hb, hml, hown, hts⟩ (c_X6_countCommands l D G B0 X (ad.1 3 3) (ad.1 3 4) (ad.1 3 5) sv.1 sv.2.1 sv.2.2.1 sv.2.2.2.1 sv.2.2.2.2.1 sv.2.2.2.2.2.1 sv.2.2.2.2.2.2 hsv.1 hsv.2.1 hsv.2.2.1 s.heap.size) (cwV 0 hts gw_X7_302 rfl rfl rfl (by decide +kernel) ⟨Nat.le_of_ble_eq_true rfl, Nat.le_of_ble_eq_true rfl⟩) (pv_sm hK (P_blk hP hb5) (D_blk hD hb5) hAB (hE.at hS0 hAB)) rfl rfl hl.1 rfl (lv_room (Nat.le_of_ble_eq_true rfl)) dX7_execute_4 ⟨Nat.le_of_ble_eq_true rfl, Nat.le_of_ble_eq_true rfl⟩) hS0 (fun q _ h => hFc q h) hFc (fun r u t9 H1 locs ht hvm hw_1 hB hz1 hk1 hS0 => ?_)
  have hB : va_P D vwCl (sw G X (ad.1 3 3) (ad.1 3 4) (ad.1 3 5) (v_cnt sv).1 (v_cnt sv).2.1 (v_cnt sv).2.2.1 (v_cnt sv).2.2.2.1 (v_cnt sv).2.2.2.2.1 (v_cnt sv).2.2.2.2.2.1 (v_cnt sv).2.2.2.2.2.2) H1 := by have h9 := hB; rw [ht] at h9; exact h9
  have hP := P_rep hP hD hb5 hk1 hB
  have hD := D_rep (C1 := (sw G X (ad.1 3 3) (ad.1 3 4) (ad.1 3 5) (v_cnt sv).1 (v_cnt sv).2.1 (v_cnt sv).2.2.1 (v_cnt sv).2.2.2.1 (v_cnt sv).2.2.2.2.1 (v_cnt sv).2.2.2.2.2.1 (v_cnt sv).2.2.2.2.2.2)) hD hb5 rfl
  obtain ⟨H, rfl⟩ : ∃ z, z = H1 := ⟨_, rfl⟩
  have hP : va_P D vwCl (CBL G X ad c0 c1 c2 hS hn (v_cnt sv) lv bs fl).flatten H := hP
  have hD : va_D A (CBL G X ad c0 c1 c2 hS hn (v_cnt sv) lv bs fl).flatten := hD
  rw [show r = (v_ct sv).1 from hw_1]
  refine lv_istore_n (lv' := [(1, .int ((v_ct sv).1)), (0, .ref (ad.1 3 0))]) hx hb dX7_execute_7 rfl hl (by decide) rfl (fun ls hl => ?_)
  refine lv_iload_n hx hb dX7_execute_8 rfl (lv_at hl 0 rfl) ?_
  refine lv_iconst (v := -1) hx hb dX7_execute_9 (by decide) ?_
  refine lv_icmp_ne (tgt := 42) hx hb dX7_execute_10 (by decide) (fun c_m => ?_) (fun c_m => ?_)
  · skip
    obtain ⟨hj60, hje⟩ : e_n sv ≤ 60 ∧ (v_ct sv).1 = nI (e_n sv) := by
      rcases v_ct_or sv with h9 | ⟨j, -, h8, h9⟩
      · exact absurd h9 c_m
      · unfold e_n; rw [h9, nI_clamp (by omega)]; exact ⟨h8, rfl⟩
    have hl : lv_has ls 3 [(1, .int (nI (e_n sv))), (0, .ref (ad.1 3 0))] := by have h9 := hl; rw [hje] at h9; exact h9
    refine lv_aload_n hx hb dX7_execute_42 rfl (lv_at hl 1 rfl) ?_
    refine va_get (D := D) (ci := 8) (v := .ref (ad.1 1 0)) (C := RX7) (T := TX7) (N := 12) hx hb hts i_X7 hown hK (P_blk hP (i := 0) rfl) 0 rfl rfl 1 (by decide) (hts _ kw_229) (fun _ h9 => h9) rfl dX7_execute_43 ?_
    refine lv_aload_n hx hb dX7_execute_46 rfl (lv_at hl 1 rfl) ?_
    refine va_get (D := D) (ci := 8) (v := .ref (ad.1 0 0)) (C := RX7) (T := TX7) (N := 12) hx hb hts i_X7 hown hK (P_blk hP (i := 0) rfl) 0 rfl rfl 0 (by decide) (hts _ kw_228) (fun _ h9 => h9) rfl dX7_execute_47 ?_
    have hbi : (CBL G X ad c0 c1 c2 hS hn (v_cnt sv) lv bs fl)[2]? = some (cw G (ad.1 1) c1) := rfl
    have hbj : (CBL G X ad c0 c1 c2 hS hn (v_cnt sv) lv bs fl)[1]? = some (cw G (ad.1 0) c0) := rfl
    have hFc := freeB hD hbi hS0 hA0
    have hDc : va_D (fun _ => True) (cw G (ad.1 1) c1 ++ cw G (ad.1 0) c0) := D_app ((D_blk hD hbi).weaken (fun _ _ _ _ => trivial)) ((D_blk hD hbj).weaken (fun _ _ _ _ => trivial)) (dj_blk hD hbi hbj (by decide))
    refine va_callv (va_runV (As := [.ref (ad.1 0 0)]) (rest := []) ⟨hx, hb, hml, hown, hts⟩ (c_X1_copyFrom l D G (ad.1 1) c1 (ad.1 0) c0 H.size) (cwV 1 hts gw_X7_313 rfl rfl rfl (by decide +kernel) ⟨Nat.le_of_ble_eq_true rfl, Nat.le_of_ble_eq_true rfl⟩) (pv_cc hK (P_blk hP hbi) (P_blk hP hbj) hDc) rfl rfl hl.1 rfl (lv_room (Nat.le_of_ble_eq_true rfl)) dX7_execute_50 ⟨Nat.le_of_ble_eq_true rfl, Nat.le_of_ble_eq_true rfl⟩) hS0 (fun q _ h => hFc q h) hFc (fun u t9 H1 locs ht hvm hw hB hz1 hk1 hS0 => ?_)
    have hB : va_P D vwCl (cw G (ad.1 1) c0) H1 := by have h9 := hB; rw [ht] at h9; exact h9
    have hP := P_rep hP hD hbi hk1 hB
    have hD := D_rep (C1 := cw G (ad.1 1) c0) hD hbi (cw_addr G _ _ _)
    obtain ⟨H, rfl⟩ : ∃ z, z = H1 := ⟨_, rfl⟩
    have hP : va_P D vwCl (CBL G X ad c0 c0 c2 hS hn (v_cnt sv) lv bs fl).flatten H := hP
    have hD : va_D A (CBL G X ad c0 c0 c2 hS hn (v_cnt sv) lv bs fl).flatten := hD
    refine lv_aload_n hx hb dX7_execute_53 rfl (lv_at hl 1 rfl) ?_
    refine lv_iload_n hx hb dX7_execute_54 rfl (lv_at hl 0 rfl) ?_
    have hFc := freeC hD hS0 hA0
    refine va_calli (va_runV (As := [.int (nI (e_n sv))]) (rest := []) ⟨hx, hb, hml, hown, hts⟩ (c_X7_runCommands l D G B0 X ad c0 c0 c2 hS hn (v_cnt sv) lv bs fl (e_n sv) hj60 hsv.cnt hBG H.size) (cwV 1 hts gw_X7_316 rfl rfl rfl (by decide +kernel) ⟨Nat.le_of_ble_eq_true rfl, Nat.le_of_ble_eq_true rfl⟩) (pv_cb hK hP hD hAB (hE.at hS0 hAB)) rfl rfl hl.1 rfl (lv_room (Nat.le_of_ble_eq_true rfl)) dX7_execute_55 ⟨Nat.le_of_ble_eq_true rfl, Nat.le_of_ble_eq_true rfl⟩) hS0 (fun q _ h => hFc q h) hFc (fun r u t9 H locs ht hvm hw hB hz1 hk1 hS0 => ?_)
    obtain ⟨hP, hB2⟩ := hB
    rw [ht] at hP
    have hD := hB2.weaken (fun _ _ _ h9 => hFc _ h9)
    have hP : va_P D vwCl (CBL G X ad ((e_r c0 fl sv).2.1) c0 c2 hS hn ((e_r c0 fl sv).2.2.2) lv bs ((e_r c0 fl sv).2.2.1)).flatten H := hP
    have hD : va_D A (CBL G X ad ((e_r c0 fl sv).2.1) c0 c2 hS hn ((e_r c0 fl sv).2.2.2) lv bs ((e_r c0 fl sv).2.2.1)).flatten := hD
    rw [show r = nI (e_r c0 fl sv).1 from hw]
    refine lv_istore_n (lv' := [(2, .int (nI (e_r c0 fl sv).1)), (1, .int (nI (e_n sv))), (0, .ref (ad.1 3 0))]) hx hb dX7_execute_58 rfl hl (by decide) rfl (fun ls hl => ?_)
    refine lv_aload_n hx hb dX7_execute_59 rfl (lv_at hl 2 rfl) ?_
    refine va_get (D := D) (ci := 8) (v := .ref (ad.1 3 3)) (C := RX7) (T := TX7) (N := 12) hx hb hts i_X7 hown hK (P_blk hP (i := 0) rfl) 0 rfl rfl 4 (by decide) (hts _ kw_232) (fun _ h9 => h9) rfl dX7_execute_60 ?_
    have hb5 : (CBL G X ad ((e_r c0 fl sv).2.1) c0 c2 hS hn ((e_r c0 fl sv).2.2.2) lv bs ((e_r c0 fl sv).2.2.1))[5]? = some (sw G X (ad.1 3 3) (ad.1 3 4) (ad.1 3 5) ((e_r c0 fl sv).2.2.2).1 ((e_r c0 fl sv).2.2.2).2.1 ((e_r c0 fl sv).2.2.2).2.2.1 ((e_r c0 fl sv).2.2.2).2.2.2.1 ((e_r c0 fl sv).2.2.2).2.2.2.2.1 ((e_r c0 fl sv).2.2.2).2.2.2.2.2.1 ((e_r c0 fl sv).2.2.2).2.2.2.2.2.2) := rfl
    have hFc := freeB hD hb5 hS0 hA0
    refine va_callv (va_runV (As := []) (rest := []) ⟨hx, hb, hml, hown, hts⟩ (c_X6_clear l D G B0 X (ad.1 3 3) (ad.1 3 4) (ad.1 3 5) ((e_r c0 fl sv).2.2.2).1 ((e_r c0 fl sv).2.2.2).2.1 ((e_r c0 fl sv).2.2.2).2.2.1 ((e_r c0 fl sv).2.2.2).2.2.2.1 ((e_r c0 fl sv).2.2.2).2.2.2.2.1 ((e_r c0 fl sv).2.2.2).2.2.2.2.2.1 ((e_r c0 fl sv).2.2.2).2.2.2.2.2.2 (e_lp_ok _ _ _ _ _ hsv.cnt.rew).1.1 (e_lp_ok _ _ _ _ _ hsv.cnt.rew).1.2.1 (e_lp_ok _ _ _ _ _ hsv.cnt.rew).1.2.2.1 H.size) (cwV 0 hts gw_X7_308 rfl rfl rfl (by decide +kernel) ⟨Nat.le_of_ble_eq_true rfl, Nat.le_of_ble_eq_true rfl⟩) (pv_sm hK (P_blk hP hb5) (D_blk hD hb5) hAB (hE.at hS0 hAB)) rfl rfl hl.1 rfl (lv_room (Nat.le_of_ble_eq_true rfl)) dX7_execute_63 ⟨Nat.le_of_ble_eq_true rfl, Nat.le_of_ble_eq_true rfl⟩) hS0 (fun q _ h => hFc q h) hFc (fun u t9 H1 locs ht hvm hw_2 hB hz1 hk1 hS0 => ?_)
    have hB : va_P D vwCl (sw G X (ad.1 3 3) (ad.1 3 4) (ad.1 3 5) (v_clr ((e_r c0 fl sv).2.2.2)).1 (v_clr ((e_r c0 fl sv).2.2.2)).2.1 (v_clr ((e_r c0 fl sv).2.2.2)).2.2.1 (v_clr ((e_r c0 fl sv).2.2.2)).2.2.2.1 (v_clr ((e_r c0 fl sv).2.2.2)).2.2.2.2.1 (v_clr ((e_r c0 fl sv).2.2.2)).2.2.2.2.2.1 (v_clr ((e_r c0 fl sv).2.2.2)).2.2.2.2.2.2) H1 := by have h9 := hB; rw [ht] at h9; exact h9
    have hP := P_rep hP hD hb5 hk1 hB
    have hD := D_rep (C1 := (sw G X (ad.1 3 3) (ad.1 3 4) (ad.1 3 5) (v_clr ((e_r c0 fl sv).2.2.2)).1 (v_clr ((e_r c0 fl sv).2.2.2)).2.1 (v_clr ((e_r c0 fl sv).2.2.2)).2.2.1 (v_clr ((e_r c0 fl sv).2.2.2)).2.2.2.1 (v_clr ((e_r c0 fl sv).2.2.2)).2.2.2.2.1 (v_clr ((e_r c0 fl sv).2.2.2)).2.2.2.2.2.1 (v_clr ((e_r c0 fl sv).2.2.2)).2.2.2.2.2.2)) hD hb5 rfl
    obtain ⟨H, rfl⟩ : ∃ z, z = H1 := ⟨_, rfl⟩
    have hP : va_P D vwCl (CBL G X ad ((e_r c0 fl sv).2.1) c0 c2 hS hn (v_clr ((e_r c0 fl sv).2.2.2)) lv bs ((e_r c0 fl sv).2.2.1)).flatten H := hP
    have hD : va_D A (CBL G X ad ((e_r c0 fl sv).2.1) c0 c2 hS hn (v_clr ((e_r c0 fl sv).2.2.2)) lv bs ((e_r c0 fl sv).2.2.1)).flatten := hD
    refine lv_iload_n hx hb dX7_execute_66 rfl (lv_at hl 0 rfl) ?_
    refine lv_iload_n hx hb dX7_execute_67 rfl (lv_at hl 1 rfl) ?_
    refine lv_icmp_ge (tgt := 98) hx hb dX7_execute_68 (by decide) (fun c_g => ?_) (fun c_g => ?_)
    · skip
      rw [← hje] at c_g
      refine lv_aload_n hx hb dX7_execute_98 rfl (lv_at hl 2 rfl) ?_
      refine va_get (D := D) (ci := 8) (v := .ref (ad.1 3 1)) (C := RX7) (T := TX7) (N := 12) hx hb hts i_X7 hown hK (P_blk hP (i := 0) rfl) 0 rfl rfl 3 (by decide) (hts _ kw_231) (fun _ h9 => h9) rfl dX7_execute_99 ?_
      refine lv_aload_n hx hb dX7_execute_102 rfl (lv_at hl 2 rfl) ?_
      refine va_get (D := D) (ci := 8) (v := .ref (ad.1 1 0)) (C := RX7) (T := TX7) (N := 12) hx hb hts i_X7 hown hK (P_blk hP (i := 0) rfl) 0 rfl rfl 1 (by decide) (hts _ kw_229) (fun _ h9 => h9) rfl dX7_execute_103 ?_
      have hb4 : (CBL G X ad ((e_r c0 fl sv).2.1) c0 c2 hS hn (v_clr ((e_r c0 fl sv).2.2.2)) lv bs ((e_r c0 fl sv).2.2.1))[4]? = some (HBL G (ad.1 3 1) (ad.1 3 2) (hR ad.2.1) (nI hn) ad.2.1 hS).flatten := rfl
      have hb1 : (CBL G X ad ((e_r c0 fl sv).2.1) c0 c2 hS hn (v_clr ((e_r c0 fl sv).2.2.2)) lv bs ((e_r c0 fl sv).2.2.1))[2]? = some (cw G (ad.1 1) c0) := rfl
      have hFc := freeB hD hb4 hS0 hA0
      refine va_callv (va_runV (As := [.ref (ad.1 1 0)]) (rest := []) ⟨hx, hb, hml, hown, hts⟩ (c_X3_push l D G (ad.1 3 1) (ad.1 3 2) ad.2.1 hS hn hh (ad.1 1) c0 H.size) (cwV 1 hts gw_X7_68 rfl rfl rfl (by decide +kernel) ⟨Nat.le_of_ble_eq_true rfl, Nat.le_of_ble_eq_true rfl⟩) (pv_hp hK (P_blk hP hb4) (D_blk hD hb4) (P_blk hP hb1) (D_blk hD hb1) (dj_blk hD hb4 hb1 (by decide))) rfl rfl hl.1 rfl (lv_room (Nat.le_of_ble_eq_true rfl)) dX7_execute_106 ⟨Nat.le_of_ble_eq_true rfl, Nat.le_of_ble_eq_true rfl⟩) hS0 (fun q _ h => hFc q h) hFc (fun u t9 H1 locs ht hvm hw hB hz1 hk1 hS0 => ?_)
      have hB : va_P D vwCl (HBL G (ad.1 3 1) (ad.1 3 2) (hR (pA ad.2.1 hn)) (nI (pN hn)) (pA ad.2.1 hn) (pS hS hn c0)).flatten H1 := by have h9 := hB; rw [ht] at h9; exact h9
      have hD8 := D_rep2 (C1 := (HBL G (ad.1 3 1) (ad.1 3 2) (hR (pA ad.2.1 hn)) (nI (pN hn)) (pA ad.2.1 hn) (pS hS hn c0)).flatten) hP hD hb4 (pushD ((D_blk hD hb4).self (sz := H.size))) hFc
      have hP := P_rep hP hD hb4 hk1 hB
      have hD := hD8
      obtain ⟨H, rfl⟩ : ∃ z, z = H1 := ⟨_, rfl⟩
      have hP : va_P D vwCl (CBL G X (ad.1, pA ad.2.1 hn, ad.2.2) ((e_r c0 fl sv).2.1) c0 c2 (pS hS hn c0) (pN hn) (v_clr ((e_r c0 fl sv).2.2.2)) lv bs ((e_r c0 fl sv).2.2.1)).flatten H := hP
      have hD : va_D A (CBL G X (ad.1, pA ad.2.1 hn, ad.2.2) ((e_r c0 fl sv).2.1) c0 c2 (pS hS hn c0) (pN hn) (v_clr ((e_r c0 fl sv).2.2.2)) lv bs ((e_r c0 fl sv).2.2.1)).flatten := hD
      refine lv_iload_n hx hb dX7_execute_109 rfl (lv_at hl 1 rfl) ?_
      have e1 : e_sv c0 fl sv = (v_clr ((e_r c0 fl sv).2.2.2)) := by simp only [e_sv, if_neg c_m]
      have e2 : e_fl c0 fl sv = (e_r c0 fl sv).2.2.1 := by simp only [e_fl, if_neg c_m, if_pos c_g]
      have e3 : e_c1 c0 c1 sv = c0 := by simp only [e_c1, if_neg c_m]
      have hx0 : x_exec c0 fl sv = 0 := by simp only [x_exec, if_neg c_m, if_pos c_g]
      refine W.widen (k := 1) (n := 6) (Nat.le_of_ble_eq_true rfl) (Nat.le_of_ble_eq_true rfl) ?_
      have hP9 : va_P D vwCl (CBL G X (ad.1, pA ad.2.1 hn, ad.2.2) ((e_r c0 fl sv).2.1) (e_c1 c0 c1 sv) c2 (pS hS hn c0) (pN hn) (e_sv c0 fl sv) lv bs (e_fl c0 fl sv)).flatten H := by rw [e1, e2, e3]; exact hP
      have hD9 : va_D A (CBL G X (ad.1, pA ad.2.1 hn, ad.2.2) ((e_r c0 fl sv).2.1) (e_c1 c0 c1 sv) c2 (pS hS hn c0) (pN hn) (e_sv c0 fl sv) lv bs (e_fl c0 fl sv)).flatten := by rw [e1, e2, e3]; exact hD
      exact vx_ret (W.iret (v := nI (e_n sv)) hx hb hr (fun t ht hW => ⟨⟨nI (e_n sv), (), rfl, ⟨hx0, hje.symm⟩, by rw [ht]; exact hP9, hD9⟩, hS0.F ht⟩) hS0.2.2 dX7_execute_110)
    · skip
      rw [← hje] at c_g
      refine lv_aload_n hx hb dX7_execute_71 rfl (lv_at hl 2 rfl) ?_
      refine va_get (D := D) (ci := 8) (v := .ref (ad.1 0 0)) (C := RX7) (T := TX7) (N := 12) hx hb hts i_X7 hown hK (P_blk hP (i := 0) rfl) 0 rfl rfl 0 (by decide) (hts _ kw_228) (fun _ h9 => h9) rfl dX7_execute_72 ?_
      refine lv_aload_n hx hb dX7_execute_75 rfl (lv_at hl 2 rfl) ?_
      refine va_get (D := D) (ci := 8) (v := .ref (ad.1 1 0)) (C := RX7) (T := TX7) (N := 12) hx hb hts i_X7 hown hK (P_blk hP (i := 0) rfl) 0 rfl rfl 1 (by decide) (hts _ kw_229) (fun _ h9 => h9) rfl dX7_execute_76 ?_
      have hbi : (CBL G X ad ((e_r c0 fl sv).2.1) c0 c2 hS hn (v_clr ((e_r c0 fl sv).2.2.2)) lv bs ((e_r c0 fl sv).2.2.1))[1]? = some (cw G (ad.1 0) ((e_r c0 fl sv).2.1)) := rfl
      have hbj : (CBL G X ad ((e_r c0 fl sv).2.1) c0 c2 hS hn (v_clr ((e_r c0 fl sv).2.2.2)) lv bs ((e_r c0 fl sv).2.2.1))[2]? = some (cw G (ad.1 1) c0) := rfl
      have hFc := freeB hD hbi hS0 hA0
      have hDc : va_D (fun _ => True) (cw G (ad.1 0) ((e_r c0 fl sv).2.1) ++ cw G (ad.1 1) c0) := D_app ((D_blk hD hbi).weaken (fun _ _ _ _ => trivial)) ((D_blk hD hbj).weaken (fun _ _ _ _ => trivial)) (dj_blk hD hbi hbj (by decide))
      refine va_callv (va_runV (As := [.ref (ad.1 1 0)]) (rest := []) ⟨hx, hb, hml, hown, hts⟩ (c_X1_copyFrom l D G (ad.1 0) ((e_r c0 fl sv).2.1) (ad.1 1) c0 H.size) (cwV 1 hts gw_X7_313 rfl rfl rfl (by decide +kernel) ⟨Nat.le_of_ble_eq_true rfl, Nat.le_of_ble_eq_true rfl⟩) (pv_cc hK (P_blk hP hbi) (P_blk hP hbj) hDc) rfl rfl hl.1 rfl (lv_room (Nat.le_of_ble_eq_true rfl)) dX7_execute_79 ⟨Nat.le_of_ble_eq_true rfl, Nat.le_of_ble_eq_true rfl⟩) hS0 (fun q _ h => hFc q h) hFc (fun u t9 H1 locs ht hvm hw hB hz1 hk1 hS0 => ?_)
      have hB : va_P D vwCl (cw G (ad.1 0) c0) H1 := by have h9 := hB; rw [ht] at h9; exact h9
      have hP := P_rep hP hD hbi hk1 hB
      have hD := D_rep (C1 := cw G (ad.1 0) c0) hD hbi (cw_addr G _ _ _)
      obtain ⟨H, rfl⟩ : ∃ z, z = H1 := ⟨_, rfl⟩
      have hP : va_P D vwCl (CBL G X ad c0 c0 c2 hS hn (v_clr ((e_r c0 fl sv).2.2.2)) lv bs ((e_r c0 fl sv).2.2.1)).flatten H := hP
      have hD : va_D A (CBL G X ad c0 c0 c2 hS hn (v_clr ((e_r c0 fl sv).2.2.2)) lv bs ((e_r c0 fl sv).2.2.1)).flatten := hD
      refine lv_aload_n hx hb dX7_execute_82 rfl (lv_at hl 2 rfl) ?_
      refine lv_iload_n hx hb dX7_execute_83 rfl (lv_at hl 0 rfl) ?_
      refine va_put (D := D) (ci := 8) (v := .int (nI (e_r c0 fl sv).1)) (ty := .int) (C := RX7) (T := TX7) (N := 12) hx hb hts i_X7 tyX7 tyX7_ok nmX7 hown hK hP hD hS0 0 rfl rfl 11 (by decide) (hts _ kw_239) (fun _ h9 => h9) rfl (by decide +kernel) rfl rfl (Nat.le_of_ble_eq_true rfl) dX7_execute_84 (fun H locs hP hD hS0 => ?_)
      have hP : va_P D vwCl (CBL G X ad c0 c0 c2 hS hn (v_clr ((e_r c0 fl sv).2.2.2)) lv bs (upd ((e_r c0 fl sv).2.2.1) 4 (nI (e_r c0 fl sv).1))).flatten H := hP
      have hD : va_D A (CBL G X ad c0 c0 c2 hS hn (v_clr ((e_r c0 fl sv).2.2.2)) lv bs (upd ((e_r c0 fl sv).2.2.1) 4 (nI (e_r c0 fl sv).1))).flatten := hD
      have e1 : e_sv c0 fl sv = (v_clr ((e_r c0 fl sv).2.2.2)) := by simp only [e_sv, if_neg c_m]
      have e2 : e_fl c0 fl sv = upd ((e_r c0 fl sv).2.2.1) 4 (nI (e_r c0 fl sv).1) := by simp only [e_fl, if_neg c_m, if_neg c_g]
      have e3 : e_c1 c0 c1 sv = c0 := by simp only [e_c1, if_neg c_m]
      have hP : va_P D vwCl (CBL G X ad c0 (e_c1 c0 c1 sv) c2 hS hn (e_sv c0 fl sv) lv bs (e_fl c0 fl sv)).flatten H := by rw [e1, e2, e3]; exact hP
      have hD : va_D A (CBL G X ad c0 (e_c1 c0 c1 sv) c2 hS hn (e_sv c0 fl sv) lv bs (e_fl c0 fl sv)).flatten := by rw [e1, e2, e3]; exact hD
      exact tw_ise hx hb hfl hts hown hE hAB (hE.s.1 8 ("CourierBags", 319, "a command failed") rfl) hS0 (hml.trans hl.1.symm).symm dX7_execute_87 dX7_execute_90 (Or.inr ⟨dX7_execute_91, rfl⟩) dX7_execute_94 dX7_execute_97 hxt (Nat.le_of_ble_eq_true rfl) (Nat.le_of_ble_eq_true rfl) (Nat.le_of_ble_eq_true rfl) (Nat.le_of_ble_eq_true rfl) hlocks (fun t hv hz hk => ⟨(), by rw [(show x_exec c0 fl sv = 4 from by simp only [x_exec, if_neg c_m, if_neg c_g])]; decide, ⟨by rw [(show x_exec c0 fl sv = 4 from by simp only [x_exec, if_neg c_m, if_neg c_g])]; rfl, (hP).kept (fun k q9 hq9 => hk q9.1 ((hP k q9 hq9).lt)), hD⟩, S_F hS0 hz hk⟩) hS0.2.2 (Nat.le_of_ble_eq_true rfl) (Nat.le_of_ble_eq_true rfl)
  · skip
    have c_m : (v_ct sv).1 = -1 := c_m
    refine lv_aload_n hx hb dX7_execute_13 rfl (lv_at hl 1 rfl) ?_
    refine lv_aload_n hx hb dX7_execute_14 rfl (lv_at hl 1 rfl) ?_
    refine va_get (D := D) (ci := 8) (v := .ref (ad.1 3 3)) (C := RX7) (T := TX7) (N := 12) hx hb hts i_X7 hown hK (P_blk hP (i := 0) rfl) 0 rfl rfl 4 (by decide) (hts _ kw_232) (fun _ h9 => h9) rfl dX7_execute_15 ?_
    refine va_getN (D := D) (ci := 7) (v := .int (nI ((v_cnt sv).2.2.2.1))) (C := RX6) (T := TX6) (N := 7) hx hb hts i_X6 hown hK (P_blk hP (i := 5) rfl) 0 rfl rfl 2 (by decide) (va_Nw.use rfl (nw_172 hE.nw)) (fun _ h9 => h9) rfl dX7_execute_18 ?_
    refine va_put (D := D) (ci := 8) (v := .int (nI ((v_cnt sv).2.2.2.1))) (ty := .int) (C := RX7) (T := TX7) (N := 12) hx hb hts i_X7 tyX7 tyX7_ok nmX7 hown hK hP hD hS0 0 rfl rfl 10 (by decide) (hts _ kw_238) (fun _ h9 => h9) rfl (by decide +kernel) rfl rfl (Nat.le_of_ble_eq_true rfl) dX7_execute_21 (fun H locs hP hD hS0 => ?_)
    have hP : va_P D vwCl (CBL G X ad c0 c1 c2 hS hn (v_cnt sv) lv bs (upd fl 3 (nI ((v_cnt sv).2.2.2.1)))).flatten H := hP
    have hD : va_D A (CBL G X ad c0 c1 c2 hS hn (v_cnt sv) lv bs (upd fl 3 (nI ((v_cnt sv).2.2.2.1)))).flatten := hD
    refine lv_aload_n hx hb dX7_execute_24 rfl (lv_at hl 1 rfl) ?_
    refine va_get (D := D) (ci := 8) (v := .ref (ad.1 3 3)) (C := RX7) (T := TX7) (N := 12) hx hb hts i_X7 hown hK (P_blk hP (i := 0) rfl) 0 rfl rfl 4 (by decide) (hts _ kw_232) (fun _ h9 => h9) rfl dX7_execute_25 ?_
    have hb5 : (CBL G X ad c0 c1 c2 hS hn (v_cnt sv) lv bs (upd fl 3 (nI ((v_cnt sv).2.2.2.1))))[5]? = some (sw G X (ad.1 3 3) (ad.1 3 4) (ad.1 3 5) (v_cnt sv).1 (v_cnt sv).2.1 (v_cnt sv).2.2.1 (v_cnt sv).2.2.2.1 (v_cnt sv).2.2.2.2.1 (v_cnt sv).2.2.2.2.2.1 (v_cnt sv).2.2.2.2.2.2) := rfl
    have hFc := freeB hD hb5 hS0 hA0
    refine va_callv (va_runV (As := []) (rest := []) ⟨hx, hb, hml, hown, hts⟩ (c_X6_clear l D G B0 X (ad.1 3 3) (ad.1 3 4) (ad.1 3 5) (v_cnt sv).1 (v_cnt sv).2.1 (v_cnt sv).2.2.1 (v_cnt sv).2.2.2.1 (v_cnt sv).2.2.2.2.1 (v_cnt sv).2.2.2.2.2.1 (v_cnt sv).2.2.2.2.2.2 (SVok.cnt hsv).1 (SVok.cnt hsv).2.1 (SVok.cnt hsv).2.2.1 H.size) (cwV 0 hts gw_X7_308 rfl rfl rfl (by decide +kernel) ⟨Nat.le_of_ble_eq_true rfl, Nat.le_of_ble_eq_true rfl⟩) (pv_sm hK (P_blk hP hb5) (D_blk hD hb5) hAB (hE.at hS0 hAB)) rfl rfl hl.1 rfl (lv_room (Nat.le_of_ble_eq_true rfl)) dX7_execute_28 ⟨Nat.le_of_ble_eq_true rfl, Nat.le_of_ble_eq_true rfl⟩) hS0 (fun q _ h => hFc q h) hFc (fun u t9 H1 locs ht hvm hw_3 hB hz1 hk1 hS0 => ?_)
    have hB : va_P D vwCl (sw G X (ad.1 3 3) (ad.1 3 4) (ad.1 3 5) (v_clr (v_cnt sv)).1 (v_clr (v_cnt sv)).2.1 (v_clr (v_cnt sv)).2.2.1 (v_clr (v_cnt sv)).2.2.2.1 (v_clr (v_cnt sv)).2.2.2.2.1 (v_clr (v_cnt sv)).2.2.2.2.2.1 (v_clr (v_cnt sv)).2.2.2.2.2.2) H1 := by have h9 := hB; rw [ht] at h9; exact h9
    have hP := P_rep hP hD hb5 hk1 hB
    have hD := D_rep (C1 := (sw G X (ad.1 3 3) (ad.1 3 4) (ad.1 3 5) (v_clr (v_cnt sv)).1 (v_clr (v_cnt sv)).2.1 (v_clr (v_cnt sv)).2.2.1 (v_clr (v_cnt sv)).2.2.2.1 (v_clr (v_cnt sv)).2.2.2.2.1 (v_clr (v_cnt sv)).2.2.2.2.2.1 (v_clr (v_cnt sv)).2.2.2.2.2.2)) hD hb5 rfl
    obtain ⟨H, rfl⟩ : ∃ z, z = H1 := ⟨_, rfl⟩
    have hP : va_P D vwCl (CBL G X ad c0 c1 c2 hS hn (v_clr (v_cnt sv)) lv bs (upd fl 3 (nI ((v_cnt sv).2.2.2.1)))).flatten H := hP
    have hD : va_D A (CBL G X ad c0 c1 c2 hS hn (v_clr (v_cnt sv)) lv bs (upd fl 3 (nI ((v_cnt sv).2.2.2.1)))).flatten := hD
    have e1 : e_sv c0 fl sv = (v_clr (v_cnt sv)) := by simp only [e_sv, if_pos c_m]
    have e2 : e_fl c0 fl sv = upd fl 3 (nI ((v_cnt sv).2.2.2.1)) := by simp only [e_fl, if_pos c_m]
    have e3 : e_c1 c0 c1 sv = c1 := by simp only [e_c1, if_pos c_m]
    have hP : va_P D vwCl (CBL G X ad c0 (e_c1 c0 c1 sv) c2 hS hn (e_sv c0 fl sv) lv bs (e_fl c0 fl sv)).flatten H := by rw [e1, e2, e3]; exact hP
    have hD : va_D A (CBL G X ad c0 (e_c1 c0 c1 sv) c2 hS hn (e_sv c0 fl sv) lv bs (e_fl c0 fl sv)).flatten := by rw [e1, e2, e3]; exact hD
    exact tw_iae hx hb hfl hts hown hE hAB (hE.s.1 7 ("CourierBags", 311, "the program is malformed") rfl) hS0 (hml.trans hl.1.symm).symm dX7_execute_31 dX7_execute_34 (Or.inr ⟨dX7_execute_35, rfl⟩) dX7_execute_38 dX7_execute_41 hxt (Nat.le_of_ble_eq_true rfl) (Nat.le_of_ble_eq_true rfl) (Nat.le_of_ble_eq_true rfl) (Nat.le_of_ble_eq_true rfl) hlocks (fun t hv hz hk => ⟨(), by rw [(show x_exec c0 fl sv = 1 from by simp only [x_exec, if_pos c_m])]; decide, ⟨by rw [(show x_exec c0 fl sv = 1 from by simp only [x_exec, if_pos c_m])]; rfl, (hP).kept (fun k q9 hq9 => hk q9.1 ((hP k q9 hq9).lt)), hD⟩, S_F hS0 hz hk⟩) hS0.2.2 (Nat.le_of_ble_eq_true rfl) (Nat.le_of_ble_eq_true rfl)
